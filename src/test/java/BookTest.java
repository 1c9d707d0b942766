/** Promises 1 to 5 and 15 to 17: a new object, the book and what is asked of its gates. */
public final class BookTest {
    private static final Check CHECK = new Check();
    private static final int LOWEST = Integer.MIN_VALUE, HIGHEST = Integer.MAX_VALUE;

    public static void main(String[] args) {
        promise1New();
        promise2SetStart();
        promise3AddEntry();
        promise3OffTheGround();
        promise3Thirty();
        promise4AddGate();
        promise4Ten();
        promise5Cut();
        promises15To17Gates();
        CHECK.end("BookTest");
    }

    private static void promise1New() {
        Replay x = new Replay();
        CHECK.same("gates of a new one", 0, x.gates());
        CHECK.refuses("cellOf(0) of a new one", x, Check.INDEX, r -> r.cellOf(0));
        CHECK.refuses("addGate(0, 0) without entries", x, Check.INDEX, r -> r.addGate(0, 0));
        CHECK.refuses("clock(0) of a new one", x, Check.INDEX, r -> r.clock(0));
        CHECK.refuses("table(0) of a new one", x, Check.INDEX, r -> r.table(0));
        CHECK.refuses("where(0) of a new one", x, Check.INDEX, r -> r.where(0));
        CHECK.same("the start of a new one", 0, x.setStart(0));
        CHECK.same("the first entry ends", 15, x.addEntry(15, 0));
        CHECK.same("the first car", 0, x.enter());
        CHECK.same("the first part", 0, x.bring(0, OriginRally.TENT));
        Replay other = new Replay();
        CHECK.same("gates of another new one", 0, other.gates());
        CHECK.same("its first car", 0, other.enter());
    }

    private static void promise2SetStart() {
        Replay x = new Replay();
        CHECK.same("setStart(255)", 0, x.setStart(255));
        CHECK.same("setStart(17)", 255, x.setStart(17));
        for (int cell : new int[] {-1, 256, LOWEST, HIGHEST}) {
            CHECK.refuses("setStart(" + cell + ")", x, Check.ARGUMENT, r -> r.setStart(cell));
        }
        CHECK.same("setStart(18)", 17, x.setStart(18));
        CHECK.same("the book begins there", 21, x.addEntry(3, 0));
        CHECK.refuses("setStart with an entry", x, Check.STATE, r -> r.setStart(0));
        CHECK.refuses("setStart(256) with an entry", x, Check.ARGUMENT, r -> r.setStart(256));
        CHECK.same("the car begins there", 18, x.cellAt(x.enter(), 0));

        Replay y = new Replay();
        y.setStart(33);
        y.enter();
        CHECK.refuses("setStart with a car", y, Check.STATE, r -> r.setStart(0));
        CHECK.refuses("setStart(-1) with a car", y, Check.ARGUMENT, r -> r.setStart(-1));
        CHECK.same("the book begins at the start still", 34, y.addEntry(1, 0));

        Replay z = new Replay();
        z.bring(0, OriginRally.TENT);
        CHECK.same("a part does not hinder setStart", 0, z.setStart(5));
    }

    private static void promise3AddEntry() {
        Replay x = new Replay();
        x.setStart(16 * 5 + 5);
        CHECK.same("heading 0", 16 * 5 + 7, x.addEntry(2, 1));
        CHECK.same("heading 1", 16 * 8 + 7, x.addEntry(3, 1));
        CHECK.same("heading 2", 16 * 8 + 6, x.addEntry(1, 1));
        CHECK.same("heading 3", 16 * 4 + 6, x.addEntry(4, 1));
        CHECK.same("heading 0 again", 16 * 4 + 7, x.addEntry(1, 2));
        CHECK.same("behind two quarters", 16 * 4 + 2, x.addEntry(5, 0));
        CHECK.same("behind no turn", 16 * 4 + 1, x.addEntry(1, 3));
        CHECK.same("behind three quarters, from 2 to 1", 16 * 5 + 1, x.addEntry(1, 3));
        CHECK.same("behind three quarters, from 1 to 0", 16 * 5 + 15, x.addEntry(14, 0));
        for (int cells : new int[] {0, -1, 16, LOWEST, HIGHEST}) {
            CHECK.refuses("addEntry(" + cells + ", 0)", x, Check.ARGUMENT, r -> r.addEntry(cells, 0));
        }
        for (int turn : new int[] {-1, 4, LOWEST, HIGHEST}) {
            CHECK.refuses("addEntry(1, " + turn + ")", x, Check.ARGUMENT, r -> r.addEntry(1, turn));
        }
    }

    private static void promise3OffTheGround() {
        for (int heading = 0; heading < 4; heading++) {
            Replay x = new Replay();
            x.setStart(16 * 8 + 8);
            // A stretch of one cell on and one back leaves the cell as it is, with any heading.
            x.addEntry(1, 2);
            x.addEntry(1, (2 + heading) % 4);
            boolean towardsGreater = heading < 2;
            int room = towardsGreater ? 7 : 8;
            CHECK.refuses("off the ground, heading " + heading, x, Check.STATE, r -> r.addEntry(room + 1, 0));
            CHECK.refuses("far off the ground, heading " + heading, x, Check.STATE, r -> r.addEntry(15, 0));
            int step = heading % 2 == 0 ? 1 : 16;
            int due = 16 * 8 + 8 + (towardsGreater ? room * step : -room * step);
            CHECK.same("to the edge, heading " + heading, due, x.addEntry(room, 2));
            CHECK.same("and back", due + (towardsGreater ? -step : step), x.addEntry(1, 0));
        }
        Replay y = new Replay();
        y.setStart(15);
        CHECK.refuses("out of range ahead of off the ground", y, Check.ARGUMENT, r -> r.addEntry(1, 4));
        CHECK.refuses("at the edge", y, Check.STATE, r -> r.addEntry(1, 0));
    }

    private static void promise3Thirty() {
        Replay x = new Replay();
        for (int entry = 0; entry < 30; entry++) {
            CHECK.same("entry " + entry, entry % 2 == 0 ? 15 : 0, x.addEntry(15, 2));
        }
        CHECK.refuses("a 31st entry", x, Check.STATE, r -> r.addEntry(1, 0));
        CHECK.refuses("a 31st entry out of range", x, Check.ARGUMENT, r -> r.addEntry(0, 0));
        CHECK.refuses("a gate at the 31st", x, Check.INDEX, r -> r.addGate(30, 0));
        CHECK.same("a gate at the 30th", 0, x.addGate(29, 100));
        CHECK.same("due there", 550, x.due(0));
        CHECK.same("its cell", 0, x.cellOf(0));
    }

    private static void promise4AddGate() {
        Replay x = new Replay();
        x.addEntry(3, 1);
        x.addEntry(2, 0);
        x.addEntry(4, 0);
        CHECK.refuses("addGate(3, 0)", x, Check.INDEX, r -> r.addGate(3, 0));
        CHECK.refuses("addGate(-1, 0)", x, Check.INDEX, r -> r.addGate(-1, 0));
        CHECK.refuses("addGate(3, 101)", x, Check.INDEX, r -> r.addGate(3, 101));
        CHECK.refuses("addGate(0, 101)", x, Check.ARGUMENT, r -> r.addGate(0, 101));
        CHECK.refuses("addGate(0, -1)", x, Check.ARGUMENT, r -> r.addGate(0, -1));
        CHECK.same("addGate(1, 100)", 0, x.addGate(1, 100));
        CHECK.refuses("addGate(1, 0) again", x, Check.ARGUMENT, r -> r.addGate(1, 0));
        CHECK.refuses("addGate(0, 0) behind it", x, Check.ARGUMENT, r -> r.addGate(0, 0));
        CHECK.same("addGate(2, 0)", 1, x.addGate(2, 0));
        CHECK.same("due(0)", 105, x.due(0));
        CHECK.same("due(1)", 9, x.due(1));
        x.addEntry(1, 0);
        CHECK.same("a gate at a later entry", 2, x.addGate(3, 7));
        CHECK.same("due(2)", 17, x.due(2));
    }

    private static void promise4Ten() {
        Replay x = new Replay();
        for (int entry = 0; entry < 12; entry++) {
            x.addEntry(1, 2);
        }
        for (int gate = 0; gate < 10; gate++) {
            CHECK.same("gate " + gate, gate, x.addGate(gate, 0));
        }
        CHECK.refuses("an 11th gate", x, Check.STATE, r -> r.addGate(10, 0));
        CHECK.refuses("an 11th gate, out of range", x, Check.ARGUMENT, r -> r.addGate(10, 101));
        CHECK.refuses("an 11th gate at an entry ahead", x, Check.ARGUMENT, r -> r.addGate(9, 0));
        CHECK.refuses("an 11th gate at no entry", x, Check.INDEX, r -> r.addGate(12, 0));
        CHECK.same("gates", 10, x.gates());
        CHECK.same("due at the last", 10, x.due(9));
        for (int gate : new int[] {-1, 10, 11, LOWEST, HIGHEST}) {
            CHECK.refuses("cellOf(" + gate + ") of ten", x, Check.INDEX, r -> r.cellOf(gate));
            CHECK.refuses("due(" + gate + ") of ten", x, Check.INDEX, r -> r.due(gate));
        }
    }

    private static void promise5Cut() {
        Replay x = new Replay();
        x.setStart(16);
        for (int entry = 0; entry < 3; entry++) {
            x.addEntry(1, 0);
            x.addGate(entry, 0);
        }
        x.enter();
        x.stand(0, 1);
        // No gate is passed, so each that counts costs 60.
        CHECK.same("all count at first", 180, x.points(0));
        CHECK.same("cut(2)", 10, x.cut(2));
        CHECK.same("two count", 120, x.points(0));
        CHECK.refuses("cut(11)", x, Check.ARGUMENT, r -> r.cut(11));
        CHECK.refuses("cut(-1)", x, Check.ARGUMENT, r -> r.cut(-1));
        CHECK.refuses("cut of the lowest", x, Check.ARGUMENT, r -> r.cut(LOWEST));
        CHECK.refuses("cut of the highest", x, Check.ARGUMENT, r -> r.cut(HIGHEST));
        CHECK.same("cut(0)", 2, x.cut(0));
        CHECK.same("none counts", 0, x.points(0));
        CHECK.same("cut(7), more than there are", 0, x.cut(7));
        CHECK.same("all three count", 180, x.points(0));
        CHECK.same("cut(10)", 7, x.cut(10));
        CHECK.same("all count again", 180, x.points(0));
        CHECK.same("gates are there all the same", 3, x.gates());
        x.cut(3);
        x.addEntry(1, 0);
        x.addGate(3, 0);
        CHECK.same("a later gate does not count", 180, x.points(0));
        x.drive(0, 1, 0);
        CHECK.same("the first gate a minute late", 121, x.points(0));
        x.cut(1);
        CHECK.same("the first ones count", 1, x.points(0));
        CHECK.same("a gate that does not count has its time", OriginRally.NONE, x.time(0, 1));
    }

    private static void promises15To17Gates() {
        Replay x = new Replay();
        x.setStart(16 * 2 + 3);
        x.addEntry(4, 1);
        x.addEntry(5, 1);
        x.addEntry(6, 1);
        CHECK.same("gates() with entries alone", 0, x.gates());
        x.addGate(0, 9);
        CHECK.same("gates()", 1, x.gates());
        x.addGate(2, 0);
        CHECK.same("gates() then", 2, x.gates());
        CHECK.same("cellOf(0)", 16 * 2 + 7, x.cellOf(0));
        CHECK.same("cellOf(1)", 16 * 7 + 1, x.cellOf(1));
        CHECK.same("due(0)", 13, x.due(0));
        CHECK.same("due(1)", 15, x.due(1));
        for (int gate : new int[] {-1, 2, 10, LOWEST, HIGHEST}) {
            CHECK.refuses("cellOf(" + gate + ")", x, Check.INDEX, r -> r.cellOf(gate));
            CHECK.refuses("due(" + gate + ")", x, Check.INDEX, r -> r.due(gate));
        }
        x.addEntry(1, 0);
        CHECK.same("later entries leave the due minute", 15, x.due(1));
        CHECK.looksChangeNothing(x);
    }
}
