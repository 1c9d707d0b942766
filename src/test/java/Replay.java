import java.util.ArrayList;
import java.util.List;
import java.util.function.Consumer;
import java.util.function.Function;

/**
 * A rally that keeps the calls which changed it, so that another one can be made alike, and that counts all its
 * calls, as the document tells nothing of an object after its 512th.
 */
final class Replay {
    static final int MOST_CALLS = 512;

    private final OriginRally rally = new OriginRally();
    private final List<Consumer<Replay>> changes = new ArrayList<>();
    private int calls;

    /** Another rally behind the same changes; what was only asked, and what was refused, is not called again. */
    Replay again() {
        Replay made = new Replay();
        changes.forEach(change -> change.accept(made));
        return made;
    }

    private <T> T ask(Function<OriginRally, T> call) {
        calls++;
        if (calls > MOST_CALLS) {
            throw new AssertionError("a test makes more than " + MOST_CALLS + " calls of one object");
        }
        return call.apply(rally);
    }

    private <T> T change(Function<OriginRally, T> call) {
        T answer = ask(call);
        changes.add(made -> made.change(call));
        return answer;
    }

    int setStart(int cell) {
        return change(r -> r.setStart(cell));
    }

    int addEntry(int cells, int turn) {
        return change(r -> r.addEntry(cells, turn));
    }

    int addGate(int entry, int allowed) {
        return change(r -> r.addGate(entry, allowed));
    }

    int cut(int gates) {
        return change(r -> r.cut(gates));
    }

    int enter() {
        return change(OriginRally::enter);
    }

    int drive(int car, int cells, int turn) {
        return change(r -> r.drive(car, cells, turn));
    }

    int stand(int car, int minutes) {
        return change(r -> r.stand(car, minutes));
    }

    void breakDown(int car, int kind) {
        change(r -> {
            r.breakDown(car, kind);
            return 0;
        });
    }

    int mend(int car) {
        return change(r -> r.mend(car));
    }

    int bring(int kind, int owner) {
        return change(r -> r.bring(kind, owner));
    }

    int hand(int part, int to) {
        return change(r -> r.hand(part, to));
    }

    int record(int car, int gate, int minute) {
        return change(r -> r.record(car, gate, minute));
    }

    boolean appeal(int car, int gate) {
        return change(r -> r.appeal(car, gate));
    }

    int gates() {
        return ask(OriginRally::gates);
    }

    int cellOf(int gate) {
        return ask(r -> r.cellOf(gate));
    }

    int due(int gate) {
        return ask(r -> r.due(gate));
    }

    int followed(int car) {
        return ask(r -> r.followed(car));
    }

    int cellAt(int car, int minute) {
        return ask(r -> r.cellAt(car, minute));
    }

    int clock(int car) {
        return ask(r -> r.clock(car));
    }

    int byTrack(int car, int gate) {
        return ask(r -> r.byTrack(car, gate));
    }

    int byMinutes(int car, int gate) {
        return ask(r -> r.byMinutes(car, gate));
    }

    int time(int car, int gate) {
        return ask(r -> r.time(car, gate));
    }

    int points(int car) {
        return ask(r -> r.points(car));
    }

    int table(int place) {
        return ask(r -> r.table(place));
    }

    int where(int part) {
        return ask(r -> r.where(part));
    }

    int lent(int car) {
        return ask(r -> r.lent(car));
    }

    boolean isBroken(int car) {
        return ask(r -> r.isBroken(car));
    }
}
