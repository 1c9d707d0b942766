import java.util.ArrayList;
import java.util.List;
import java.util.function.Supplier;

/** All promises: long runs of calls, made from numbers that are the same each time, against the slow model. */
public final class RandomRunsTest {
    private static final int RUNS = 3000, CALLS = 512;
    private static final int[] ODD = {-1, -2, -3, 256, 10001, Integer.MIN_VALUE, Integer.MAX_VALUE, 0x40000000};
    private static int wrong;
    private static int passed;
    private static int lostAppeals;
    private static int mended;

    private final OriginRally rally = new OriginRally();
    private final SlowRally slow = new SlowRally();
    private final List<int[]> written = new ArrayList<>();
    private final List<String> told = new ArrayList<>();
    private final int style;
    private long seed;
    private int cars;
    private int parts;
    private final int[] next = new int[8];

    private RandomRunsTest(int run) {
        style = run % 4;
        seed = run * 7919L + 17;
    }

    public static void main(String[] args) {
        for (int run = 0; run < RUNS && wrong == 0; run++) {
            new RandomRunsTest(run).go(run);
        }
        System.out.println("RandomRunsTest: " + RUNS + " runs, " + wrong + " wrong; gates passed " + passed
                + ", appeals lost " + lostAppeals + ", mended " + mended);
        // Runs that meet none of these would not test much.
        if (wrong != 0 || passed < 1000 || lostAppeals < 100 || mended < 100) {
            System.exit(1);
        }
    }

    private int below(int bound) {
        seed = seed * 6364136223846793005L + 1442695040888963407L;
        return (int) ((seed >>> 33) % bound);
    }

    private boolean inTen(int chances) {
        return below(10) < chances;
    }

    /** Mostly a number that is there, else one beside it. */
    private int number(int first, int count) {
        if (below(30) == 0) {
            return below(2) == 0 ? ODD[below(ODD.length)] : first + count;
        }
        return first + (count > 0 ? below(count) : 0);
    }

    private void go(int run) {
        int calls = 0;
        if (style != 3 || below(2) == 0) {
            setStart(number(0, 256));
            calls++;
        }
        if (style == 0) {
            calls += nearTheLimits();
        }
        while (calls < CALLS && wrong == 0) {
            one();
            calls++;
        }
        if (wrong != 0) {
            System.out.println("run " + run + " behind these calls:");
            told.forEach(System.out::println);
        }
        for (int car = 0; car < cars; car++) {
            for (int gate = 0; gate < slow.gates(); gate++) {
                passed += slow.pass(car, gate) > 0 ? 1 : 0;
            }
        }
    }

    /** A long book with many gates, up to eight cars and many parts, so that the rest of the run meets the limits. */
    private int nearTheLimits() {
        int calls = 0;
        for (int car = below(9); car > 0; car--) {
            cars += same("enter()", rally::enter, slow::enter) ? 1 : 0;
            calls++;
        }
        for (int entry = below(60); entry > 0; entry--) {
            addEntry(number(1, 6), number(0, 4));
            calls++;
            if (inTen(3)) {
                addGate(written.size() - 1, number(0, 20));
                calls++;
            }
        }
        for (int part = below(42); part > 0; part--) {
            bring(below(4), below(cars + 1) - 1);
            calls++;
        }
        return calls;
    }

    private void addEntry(int cells, int turn) {
        if (same("addEntry(" + cells + ", " + turn + ")", () -> rally.addEntry(cells, turn),
                () -> slow.addEntry(cells, turn))) {
            written.add(new int[] {cells, turn});
        }
    }

    private void addGate(int entry, int allowed) {
        same("addGate(" + entry + ", " + allowed + ")", () -> rally.addGate(entry, allowed),
                () -> slow.addGate(entry, allowed));
    }

    private void bring(int kind, int owner) {
        parts += same("bring(" + kind + ", " + owner + ")", () -> rally.bring(kind, owner),
                () -> slow.bring(kind, owner)) ? 1 : 0;
    }

    private void setStart(int cell) {
        same("setStart(" + cell + ")", () -> rally.setStart(cell), () -> slow.setStart(cell));
    }

    private void one() {
        int kind = below(100);
        if (kind < 8) {
            book();
        } else if (kind < 11 + (cars < 2 ? 20 : 0)) {
            cars += same("enter()", rally::enter, slow::enter) ? 1 : 0;
        } else if (kind < (style == 2 ? 25 : 45)) {
            move();
        } else if (kind < 60) {
            part();
        } else if (kind < 68) {
            van();
        } else {
            ask();
        }
    }

    private void book() {
        int chosen = below(10);
        if (chosen < 6) {
            addEntry(number(1, style == 1 ? 2 : inTen(3) ? 15 : 4), number(0, style == 3 ? 2 : 4));
        } else if (chosen < 9) {
            int entry = inTen(5) ? written.size() - 1 : number(0, written.size());
            addGate(entry, number(0, inTen(2) ? 101 : 8));
        } else if (inTen(5)) {
            int gates = number(0, 11);
            same("cut(" + gates + ")", () -> rally.cut(gates), () -> slow.cut(gates));
        } else {
            setStart(number(0, 256));
        }
    }

    private void move() {
        int car = number(0, cars);
        boolean isThere = car >= 0 && car < 8;
        if (inTen(2)) {
            int minutes = number(1, inTen(1) ? 100 : 5);
            same("stand(" + car + ", " + minutes + ")", () -> rally.stand(car, minutes),
                    () -> slow.stand(car, minutes));
        } else if (style != 1 && isThere && next[car] < written.size() && inTen(7)) {
            int[] entry = written.get(next[car]);
            next[car] += drive(car, entry[0], entry[1]) ? 1 : 0;
        } else {
            drive(car, number(0, style == 1 ? 4 : 16), number(0, 4));
        }
    }

    private boolean drive(int car, int cells, int turn) {
        return same("drive(" + car + ", " + cells + ", " + turn + ")", () -> rally.drive(car, cells, turn),
                () -> slow.drive(car, cells, turn));
    }

    private void part() {
        int car = number(0, cars);
        int chosen = below(10);
        int kind = number(0, style == 2 ? 4 : 2);
        if (chosen < 2) {
            bring(kind, car - 1);
        } else if (chosen < 6) {
            int part = number(0, parts);
            int to = number(-1, cars + 1);
            same("hand(" + part + ", " + to + ")", () -> rally.hand(part, to), () -> slow.hand(part, to));
        } else if (chosen < 7) {
            same("breakDown(" + car + ", " + kind + ")", () -> nothing(rally, car, kind),
                    () -> nothing(slow, car, kind));
        } else {
            mended += same("mend(" + car + ")", () -> rally.mend(car), () -> slow.mend(car)) ? 1 : 0;
        }
    }

    private static int nothing(OriginRally rally, int car, int kind) {
        rally.breakDown(car, kind);
        return 0;
    }

    private static int nothing(SlowRally slow, int car, int kind) {
        slow.breakDown(car, kind);
        return 0;
    }

    private void van() {
        int car = number(0, cars);
        int gate = number(0, slow.gates());
        if (inTen(6)) {
            boolean asItWas = car >= 0 && car < cars && gate >= 0 && gate < slow.gates() && inTen(4);
            int minute = asItWas ? slow.pass(car, gate) : number(0, inTen(3) ? 10001 : 80);
            same("record(" + car + ", " + gate + ", " + minute + ")", () -> rally.record(car, gate, minute),
                    () -> slow.record(car, gate, minute));
        } else {
            String answer = same("appeal(" + car + ", " + gate + ")", () -> rally.appeal(car, gate),
                    () -> slow.appeal(car, gate)) ? told.get(told.size() - 1) : "";
            lostAppeals += answer.endsWith("false") ? 1 : 0;
        }
    }

    private void ask() {
        int car = number(0, cars);
        int gate = number(0, slow.gates());
        int part = number(0, parts);
        String both = "(" + car + ", " + gate + ")";
        switch (below(14)) {
            case 0: same("gates()", rally::gates, slow::gates); break;
            case 1: same("cellOf(" + gate + ")", () -> rally.cellOf(gate), () -> slow.cellOf(gate)); break;
            case 2: same("due(" + gate + ")", () -> rally.due(gate), () -> slow.due(gate)); break;
            case 3: same("followed(" + car + ")", () -> rally.followed(car), () -> slow.followed(car)); break;
            case 4: cellAt(car); break;
            case 5: same("clock(" + car + ")", () -> rally.clock(car), () -> slow.clock(car)); break;
            case 6: same("byTrack" + both, () -> rally.byTrack(car, gate), () -> slow.pass(car, gate)); break;
            case 7: same("byMinutes" + both, () -> rally.byMinutes(car, gate), () -> slow.pass(car, gate)); break;
            case 8: same("time" + both, () -> rally.time(car, gate), () -> slow.time(car, gate)); break;
            case 9: same("points(" + car + ")", () -> rally.points(car), () -> slow.points(car)); break;
            case 10: same("table(" + car + ")", () -> rally.table(car), () -> slow.table(car)); break;
            case 11: same("where(" + part + ")", () -> rally.where(part), () -> slow.where(part)); break;
            case 12: same("lent(" + car + ")", () -> rally.lent(car), () -> slow.lent(car)); break;
            default: same("isBroken(" + car + ")", () -> rally.isBroken(car), () -> slow.isBroken(car)); break;
        }
    }

    private void cellAt(int car) {
        int clock = car >= 0 && car < cars ? slow.clock(car) : 0;
        int minute = number(0, clock + 1);
        same("cellAt(" + car + ", " + minute + ")", () -> rally.cellAt(car, minute),
                () -> slow.cellAt(car, minute));
    }

    /** Whether the call was answered, and not refused. */
    private boolean same(String call, Supplier<Object> asked, Supplier<Object> due) {
        String want = answer(due);
        String got = answer(asked);
        told.add(call + " -> " + want);
        if (!want.equals(got)) {
            wrong++;
            System.out.println(call + " answered " + got + ", due is " + want);
        }
        return !want.startsWith("throws");
    }

    private static String answer(Supplier<Object> call) {
        try {
            return String.valueOf(call.get());
        } catch (RuntimeException e) {
            return "throws " + e.getClass().getName();
        }
    }
}
