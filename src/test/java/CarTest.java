/** Promises 6 to 10, 18 to 20 and 28: cars, what they do, and what is asked of their tracks. */
public final class CarTest {
    private static final Check CHECK = new Check();
    private static final int LOWEST = Integer.MIN_VALUE, HIGHEST = Integer.MAX_VALUE;
    private static final int[] NO_CARS_OF_TWO = {-2, -1, 2, 8, LOWEST, HIGHEST};

    public static void main(String[] args) {
        promise6Enter();
        promise7Drive();
        promise7OffTheGround();
        promise7SixtyPieces();
        promise7BrokenDown();
        promise8Stand();
        promise9BreakDown();
        promise10Mend();
        promise10Refusals();
        promise18Followed();
        promise18OnlyAhead();
        promise19CellAt();
        promise20Clock();
        promise28IsBroken();
        CHECK.end("CarTest");
    }

    private static void promise6Enter() {
        Replay x = new Replay();
        x.setStart(77);
        for (int car = 0; car < 8; car++) {
            CHECK.same("enter()", car, x.enter());
            CHECK.same("its clock", 0, x.clock(car));
            CHECK.same("its cell", 77, x.cellAt(car, 0));
            CHECK.yes("not broken", !x.isBroken(car));
            CHECK.same("its heading is 0", 1, x.drive(car, 1, 1));
            CHECK.same("so y grew", 78, x.cellAt(car, 1));
        }
        CHECK.refuses("a ninth car", x, Check.STATE, Replay::enter);
        CHECK.refuses("clock(8) of eight", x, Check.INDEX, r -> r.clock(8));
        CHECK.refuses("clock(-1) of eight", x, Check.INDEX, r -> r.clock(-1));
        CHECK.same("the eighth has a track of its own", 3, x.drive(7, 2, 0));
        CHECK.same("and the seventh", 1, x.clock(6));
    }

    private static void promise7Drive() {
        Replay x = Setup.withCars(2, 16 * 5 + 5);
        CHECK.same("drive(0, 3, 1)", 3, x.drive(0, 3, 1));
        CHECK.same("heading 1", 5, x.drive(0, 2, 1));
        CHECK.same("its cell", 16 * 7 + 8, x.cellAt(0, 5));
        CHECK.same("heading 2", 6, x.drive(0, 1, 1));
        CHECK.same("its cell", 16 * 7 + 7, x.cellAt(0, 6));
        CHECK.same("heading 3", 13, x.drive(0, 7, 1));
        CHECK.same("its cell", 7, x.cellAt(0, 13));
        CHECK.same("turning takes no minute", 13, x.drive(0, 0, 3));
        CHECK.same("nor does a piece of nothing", 13, x.drive(0, 0, 0));
        CHECK.refuses("its heading is 3 now", x, Check.STATE, r -> r.drive(0, 1, 0));
        CHECK.same("the other one did not move", 0, x.clock(1));
        for (int car : NO_CARS_OF_TWO) {
            CHECK.refuses("drive(" + car + ", 1, 0)", x, Check.INDEX, r -> r.drive(car, 1, 0));
            CHECK.refuses("drive(" + car + ", 16, 4)", x, Check.INDEX, r -> r.drive(car, 16, 4));
        }
        for (int cells : new int[] {-1, 16, LOWEST, HIGHEST}) {
            CHECK.refuses("drive(0, " + cells + ", 0)", x, Check.ARGUMENT, r -> r.drive(0, cells, 0));
        }
        for (int turn : new int[] {-1, 4, LOWEST, HIGHEST}) {
            CHECK.refuses("drive(0, 0, " + turn + ")", x, Check.ARGUMENT, r -> r.drive(0, 0, turn));
        }
    }

    private static void promise7OffTheGround() {
        int[] room = {4, 12, 11, 3};
        int[] edge = {16 * 3 + 15, 16 * 15 + 11, 16 * 3, 11};
        for (int heading = 0; heading < 4; heading++) {
            Replay x = Setup.withCars(2, 16 * 3 + 11);
            x.drive(1, 0, heading);
            int most = room[heading];
            CHECK.refuses("off the ground, heading " + heading, x, Check.STATE, r -> r.drive(1, most + 1, 0));
            CHECK.same("to the edge, heading " + heading, most, x.drive(1, most, 0));
            CHECK.same("the edge, heading " + heading, edge[heading], x.cellAt(1, most));
            CHECK.refuses("from the edge, heading " + heading, x, Check.STATE, r -> r.drive(1, 1, 0));
            CHECK.same("a turn at the edge", most, x.drive(1, 0, 2));
            CHECK.same("and back", most + 1, x.drive(1, 1, 0));
        }
    }

    private static void promise7SixtyPieces() {
        Replay x = Setup.withCars(2, 0);
        Setup.fill(x, 0, 59);
        CHECK.same("the 60th piece", 59, x.drive(0, 0, 0));
        CHECK.refuses("a 61st piece", x, Check.STATE, r -> r.drive(0, 0, 0));
        CHECK.refuses("a 61st piece out of range", x, Check.ARGUMENT, r -> r.drive(0, 16, 0));
        CHECK.refuses("a 61st piece of standing", x, Check.STATE, r -> r.stand(0, 1));
        CHECK.refuses("a 61st piece of standing out of range", x, Check.ARGUMENT, r -> r.stand(0, 0));
        CHECK.same("the other one has its own", 1, x.stand(1, 1));
        for (int piece = 1; piece < 60; piece++) {
            CHECK.same("standing is a piece", piece * 100 + 1, x.stand(1, 100));
        }
        CHECK.refuses("a 61st piece behind standing", x, Check.STATE, r -> r.drive(1, 1, 0));
        CHECK.same("the longest clock", 5901, x.clock(1));
    }

    private static void promise7BrokenDown() {
        Replay x = Setup.withCars(2, 0);
        x.bring(0, 0);
        x.breakDown(0, 0);
        CHECK.refuses("a broken car drives", x, Check.STATE, r -> r.drive(0, 1, 0));
        CHECK.refuses("a broken car turns", x, Check.STATE, r -> r.drive(0, 0, 1));
        CHECK.refuses("a broken car, out of range", x, Check.ARGUMENT, r -> r.drive(0, 1, 4));
        CHECK.same("the other one drives", 1, x.drive(1, 1, 0));
        CHECK.same("a broken car stands", 4, x.stand(0, 4));
        x.mend(0);
        CHECK.same("a mended car drives", 8, x.drive(0, 1, 0));
    }

    private static void promise8Stand() {
        Replay x = Setup.withCars(2, 33);
        CHECK.same("stand(0, 1)", 1, x.stand(0, 1));
        CHECK.same("stand(0, 100)", 101, x.stand(0, 100));
        CHECK.same("it is where it was", 33, x.cellAt(0, 101));
        x.drive(0, 2, 1);
        x.stand(0, 3);
        CHECK.same("its heading is kept", 107, x.drive(0, 1, 0));
        CHECK.same("its cell", 33 + 2 + 16, x.cellAt(0, 107));
        for (int car : NO_CARS_OF_TWO) {
            CHECK.refuses("stand(" + car + ", 1)", x, Check.INDEX, r -> r.stand(car, 1));
            CHECK.refuses("stand(" + car + ", 0)", x, Check.INDEX, r -> r.stand(car, 0));
        }
        for (int minutes : new int[] {0, -1, 101, LOWEST, HIGHEST}) {
            CHECK.refuses("stand(0, " + minutes + ")", x, Check.ARGUMENT, r -> r.stand(0, minutes));
        }
        CHECK.same("the other one's clock", 0, x.clock(1));
    }

    private static void promise9BreakDown() {
        Replay x = Setup.withCars(2, 0);
        for (int car : NO_CARS_OF_TWO) {
            CHECK.refuses("breakDown(" + car + ", 0)", x, Check.INDEX, r -> r.breakDown(car, 0));
        }
        for (int kind : new int[] {-1, 4, LOWEST, HIGHEST}) {
            CHECK.refuses("breakDown(0, " + kind + ")", x, Check.INDEX, r -> r.breakDown(0, kind));
        }
        x.breakDown(0, 3);
        CHECK.yes("it is broken down", x.isBroken(0));
        CHECK.yes("the other one is not", !x.isBroken(1));
        CHECK.refuses("it breaks down again", x, Check.STATE, r -> r.breakDown(0, 3));
        CHECK.refuses("by another kind", x, Check.STATE, r -> r.breakDown(0, 0));
        CHECK.refuses("by no kind", x, Check.INDEX, r -> r.breakDown(0, 4));
        x.breakDown(1, 0);
        CHECK.yes("the other one is, too", x.isBroken(1));
        CHECK.same("it takes no minute", 0, x.clock(0));
    }

    private static void promise10Mend() {
        Replay x = Setup.withCars(2, 18);
        int clock = 0;
        for (int kind = 0; kind < 4; kind++) {
            x.bring(kind, 1);
            x.bring(kind, 0);
            x.bring(kind, 0);
        }
        for (int kind = 3; kind >= 0; kind--) {
            x.breakDown(0, kind);
            CHECK.same("mend by kind " + kind, 3 * kind + 1, x.mend(0));
            clock += 3 * (kind + 1);
            CHECK.same("the minutes", clock, x.clock(0));
            CHECK.same("the part", OriginRally.USED_UP, x.where(3 * kind + 1));
            CHECK.same("the next part", 0, x.where(3 * kind + 2));
            CHECK.same("the other car's part", 1, x.where(3 * kind));
            CHECK.yes("it is mended", !x.isBroken(0));
        }
        CHECK.same("it stood", 18, x.cellAt(0, clock));
        x.breakDown(0, 1);
        CHECK.same("the next one of the kind", 5, x.mend(0));
        x.breakDown(0, 1);
        CHECK.refuses("none of the kind is left", x, Check.ELEMENT, r -> r.mend(0));
        CHECK.same("a part of another car", 1, x.hand(3, 0));
        CHECK.same("is used up", 3, x.mend(0));
        CHECK.same("the heading is kept", 43, x.drive(0, 1, 0));
        CHECK.same("and y grew", 19, x.cellAt(0, 43));
    }

    private static void promise10Refusals() {
        Replay x = Setup.withCars(2, 0);
        for (int car : NO_CARS_OF_TWO) {
            CHECK.refuses("mend(" + car + ")", x, Check.INDEX, r -> r.mend(car));
        }
        x.bring(2, 0);
        x.bring(1, OriginRally.TENT);
        CHECK.refuses("mend of a car that is not broken", x, Check.STATE, r -> r.mend(0));
        x.breakDown(0, 1);
        CHECK.refuses("mend with a part of another kind", x, Check.ELEMENT, r -> r.mend(0));
        x.hand(1, 0);
        CHECK.same("mend with the tent's part", 1, x.mend(0));
        CHECK.refuses("mend twice", x, Check.STATE, r -> r.mend(0));
        Setup.fill(x, 1, 60);
        x.breakDown(1, 2);
        CHECK.refuses("a full track ahead of no part", x, Check.STATE, r -> r.mend(1));
        x.hand(0, 1);
        CHECK.refuses("a full track", x, Check.STATE, r -> r.mend(1));
        CHECK.same("the part is in it still", 1, x.where(0));

        Replay y = Setup.withCars(2, 0);
        y.bring(0, 0);
        Setup.fill(y, 0, 59);
        y.breakDown(0, 0);
        CHECK.same("mending as the 60th piece", 0, y.mend(0));
        CHECK.refuses("mending was a piece", y, Check.STATE, r -> r.stand(0, 1));
    }

    private static Replay withBook() {
        Replay x = Setup.withCars(2, 16 * 8 + 8);
        x.addEntry(3, 1);
        x.addEntry(2, 1);
        x.addEntry(3, 1);
        x.addEntry(2, 1);
        return x;
    }

    private static void promise18Followed() {
        Replay x = withBook();
        CHECK.same("without a track", 0, x.followed(0));
        x.drive(0, 3, 1);
        CHECK.same("one entry", 1, x.followed(0));
        x.stand(0, 5);
        CHECK.same("standing does not count", 1, x.followed(0));
        x.drive(0, 2, 1);
        x.drive(0, 3, 1);
        CHECK.same("three entries", 3, x.followed(0));
        x.bring(0, 0);
        x.breakDown(0, 0);
        x.mend(0);
        x.drive(0, 2, 1);
        CHECK.same("mending does not count", 4, x.followed(0));
        x.drive(0, 3, 1);
        CHECK.same("the book is at its end", 4, x.followed(0));
        x.addEntry(3, 1);
        CHECK.same("until it goes on", 5, x.followed(0));
        x.addEntry(1, 0);
        CHECK.same("and the track does not", 5, x.followed(0));
        CHECK.same("the other one", 0, x.followed(1));
        for (int car : NO_CARS_OF_TWO) {
            CHECK.refuses("followed(" + car + ")", x, Check.INDEX, r -> r.followed(car));
        }
    }

    private static void promise18OnlyAhead() {
        Replay x = withBook();
        x.stand(0, 3);
        x.drive(0, 3, 1);
        x.drive(0, 2, 0);
        CHECK.same("another turn", 1, x.followed(0));
        x.drive(0, 2, 1);
        CHECK.same("what comes behind the other one", 1, x.followed(0));
        x.drive(1, 1, 0);
        x.drive(1, 2, 1);
        x.drive(1, 2, 1);
        CHECK.same("other cells though the same way", 0, x.followed(1));

        Replay y = withBook();
        y.drive(0, 3, 1);
        y.drive(0, 0, 0);
        y.drive(0, 2, 1);
        CHECK.same("a piece of no cells is another one", 1, y.followed(0));
        y.drive(1, 3, 0);
        y.drive(1, 0, 1);
        CHECK.same("a turn for itself is another one", 0, y.followed(1));

        Replay full = Setup.withCars(2, 0);
        for (int entry = 0; entry < 30; entry++) {
            full.addEntry(1 + entry / 2, 2);
            full.drive(0, 1 + entry / 2, 2);
            full.stand(0, 1);
        }
        CHECK.same("all thirty entries, sixty pieces", 30, full.followed(0));
        for (int piece = 0; piece < 31; piece++) {
            full.drive(1, 1 + piece / 2 % 15, 2);
        }
        CHECK.same("thirty entries and one beyond", 30, full.followed(1));

        Replay z = Setup.withCars(2, 0);
        z.drive(0, 1, 0);
        CHECK.same("without a book", 0, z.followed(0));
        z.addEntry(2, 0);
        z.stand(1, 2);
        CHECK.same("standing is not an entry", 0, z.followed(1));
    }

    private static void promise19CellAt() {
        Replay x = Setup.withCars(2, 16 * 4 + 4);
        CHECK.same("at first", 16 * 4 + 4, x.cellAt(0, 0));
        CHECK.refuses("cellAt(0, 1) at first", x, Check.ARGUMENT, r -> r.cellAt(0, 1));
        x.drive(0, 2, 1);
        x.stand(0, 2);
        x.drive(0, 2, 1);
        x.drive(0, 0, 0);
        x.drive(0, 1, 1);
        x.drive(0, 3, 3);
        int[] due = {68, 69, 70, 70, 70, 86, 102, 101, 85, 69, 53};
        for (int minute = 0; minute < due.length; minute++) {
            CHECK.same("cellAt(0, " + minute + ")", due[minute], x.cellAt(0, minute));
        }
        for (int minute : new int[] {-1, due.length, LOWEST, HIGHEST}) {
            CHECK.refuses("cellAt(0, " + minute + ")", x, Check.ARGUMENT, r -> r.cellAt(0, minute));
        }
        for (int car : NO_CARS_OF_TWO) {
            CHECK.refuses("cellAt(" + car + ", 0)", x, Check.INDEX, r -> r.cellAt(car, 0));
            CHECK.refuses("cellAt(" + car + ", -1)", x, Check.INDEX, r -> r.cellAt(car, -1));
        }
        x.stand(0, 1);
        CHECK.same("what was stays", 86, x.cellAt(0, 5));
        CHECK.looksChangeNothing(x);
    }

    private static void promise20Clock() {
        Replay x = Setup.withCars(2, 0);
        CHECK.same("at first", 0, x.clock(1));
        x.drive(1, 15, 1);
        CHECK.same("a minute a cell", 15, x.clock(1));
        x.stand(1, 7);
        CHECK.same("the minutes told", 22, x.clock(1));
        x.drive(1, 0, 3);
        CHECK.same("none for a turn", 22, x.clock(1));
        x.bring(2, 1);
        x.breakDown(1, 2);
        CHECK.same("none for breaking down", 22, x.clock(1));
        x.mend(1);
        CHECK.same("those of mending", 31, x.clock(1));
        CHECK.same("its own", 0, x.clock(0));
        for (int car : NO_CARS_OF_TWO) {
            CHECK.refuses("clock(" + car + ")", x, Check.INDEX, r -> r.clock(car));
        }
    }

    private static void promise28IsBroken() {
        Replay x = Setup.withCars(2, 0);
        CHECK.yes("not at first", !x.isBroken(0));
        x.breakDown(1, 0);
        CHECK.yes("broken by the kind 0", x.isBroken(1));
        CHECK.yes("the other one is not", !x.isBroken(0));
        x.stand(1, 1);
        CHECK.yes("standing does not mend", x.isBroken(1));
        x.bring(0, 1);
        CHECK.yes("a part does not mend", x.isBroken(1));
        x.mend(1);
        CHECK.yes("mended", !x.isBroken(1));
        for (int car : NO_CARS_OF_TWO) {
            CHECK.refuses("isBroken(" + car + ")", x, Check.INDEX, r -> r.isBroken(car));
        }
    }
}
