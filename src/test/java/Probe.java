import java.util.List;
import java.util.function.Function;
import java.util.function.Supplier;

/**
 * What a rally answers to a row of calls, as a text. Some of its state can be asked, and some only later calls show
 * (the end of the book, a heading, the kind by which a car is broken down); so there are several rows, each for an
 * object of its own, that together show all of it.
 */
final class Probe {
    static final List<Function<Replay, String>> ALL =
            List.of(Probe::asked, Probe::times, Probe::start, Probe::book, Probe::tracks, Probe::parts, Probe::van);

    private static final int[] KINDS = {0, 1, 2, 3};

    private final Replay rally;
    private final StringBuilder text = new StringBuilder();

    private Probe(Replay rally) {
        this.rally = rally;
    }

    /** Gates, cars and parts, as far as they can be asked. */
    static String asked(Replay rally) {
        Probe probe = new Probe(rally);
        for (int gate = 0; gate < rally.gates(); gate++) {
            probe.add("gate", rally.cellOf(gate), rally.due(gate));
        }
        for (int car = 0; probe.isCar(car); car++) {
            probe.add("car", rally.followed(car), rally.points(car), rally.lent(car), rally.isBroken(car),
                    rally.table(car));
            probe.addCells(car);
        }
        for (int part = 0; probe.isPart(part); part++) {
            probe.add("part", rally.where(part));
        }
        return probe.text.toString();
    }

    /** The times of all cars at all gates. */
    static String times(Replay rally) {
        Probe probe = new Probe(rally);
        int gates = rally.gates();
        for (int car = 0; probe.isCar(car); car++) {
            for (int gate = 0; gate < gates; gate++) {
                probe.add("times", rally.byTrack(car, gate), rally.byMinutes(car, gate), rally.time(car, gate));
            }
        }
        return probe.text.toString();
    }

    /** The start, and where the book begins if it can be set. */
    static String start(Replay rally) {
        Probe probe = new Probe(rally);
        probe.call("setStart", () -> rally.setStart(119));
        probe.call("addEntry", () -> rally.addEntry(1, 0));
        return probe.text.toString();
    }

    /** How many gates count, where cars begin, and where and how the book goes on. */
    static String book(Replay rally) {
        Probe probe = new Probe(rally);
        probe.call("cut", () -> rally.cut(10));
        probe.call("enter", rally::enter);
        probe.call("addEntry", () -> rally.addEntry(1, 0));
        probe.call("addEntry", () -> rally.addEntry(1, 1));
        probe.call("addEntry", () -> rally.addEntry(2, 0));
        for (int entry = 0; entry < 30; entry++) {
            int asked = entry;
            probe.call("addGate", () -> rally.addGate(asked, 100));
        }
        for (int gate = 0; gate < rally.gates(); gate++) {
            probe.add("gate", rally.cellOf(gate), rally.due(gate));
        }
        for (int car = 0; probe.isCar(car); car++) {
            probe.add("begins at", rally.cellAt(car, 0));
            probe.add("followed", rally.followed(car));
        }
        return probe.text.toString();
    }

    /** By which kind each car is broken down, its heading, and whether its track goes on. */
    static String tracks(Replay rally) {
        Probe probe = new Probe(rally);
        for (int car = 0; probe.isCar(car); car++) {
            int asked = car;
            if (rally.isBroken(car)) {
                for (int kind : KINDS) {
                    probe.call("bring", () -> rally.bring(kind, asked));
                }
                probe.call("mend", () -> rally.mend(asked));
            }
            for (int turn = 0; turn < 4; turn++) {
                probe.call("drive", () -> rally.drive(asked, 1, 0));
                probe.call("turn", () -> rally.drive(asked, 0, 1));
            }
            probe.call("stand", () -> rally.stand(asked, 1));
            probe.addCells(car);
        }
        return probe.text.toString();
    }

    /** Where parts can be handed, who owns and used them, and which cars are at the tent. */
    static String parts(Replay rally) {
        Probe probe = new Probe(rally);
        for (int part = 0; probe.isPart(part); part++) {
            int asked = part;
            probe.call("hand", () -> rally.hand(asked, OriginRally.TENT));
        }
        for (int car = 0; probe.isCar(car); car++) {
            probe.add("lent", rally.lent(car));
        }
        String brought = probe.call("bring", () -> rally.bring(0, OriginRally.TENT));
        for (int car = 0; !brought.startsWith(Check.THROWS) && probe.isCar(car); car++) {
            int asked = car;
            probe.call("hand on", () -> rally.hand(Integer.parseInt(brought), asked));
        }
        return probe.text.toString();
    }

    /** What the van has recorded, and what lost appeals cost. */
    static String van(Replay rally) {
        Probe probe = new Probe(rally);
        int gates = rally.gates();
        for (int car = 0; probe.isCar(car); car++) {
            int asked = car;
            for (int gate = 0; gate < gates; gate++) {
                int at = gate;
                probe.call("appeal", () -> rally.appeal(asked, at));
            }
            probe.add("points", rally.points(car));
        }
        return probe.text.toString();
    }

    private void add(String what, Object... answers) {
        text.append(what);
        for (Object answer : answers) {
            text.append(' ').append(answer);
        }
        text.append('\n');
    }

    private String call(String name, Supplier<Object> call) {
        String answer = Check.answer(call);
        add(name, answer);
        return answer;
    }

    private boolean isCar(int number) {
        String clock = Check.answer(() -> rally.clock(number));
        add("clock", clock);
        return !clock.startsWith(Check.THROWS);
    }

    private boolean isPart(int number) {
        return !Check.answer(() -> rally.where(number)).startsWith(Check.THROWS);
    }

    /** Some cells of its track, the first and the last among them. */
    private void addCells(int car) {
        int clock = rally.clock(car);
        for (int minute = 0; minute < clock; minute += 1 + clock / 12) {
            add("was at", rally.cellAt(car, minute));
        }
        add("is at", rally.cellAt(car, clock));
    }
}
