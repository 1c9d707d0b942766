/** The boundary cases of the book, sentence by sentence: promises 1 to 5 and 15 to 17, and the terms they use. */
public final class BookEdgesTest {
    private static final Check CHECK = new Check();
    private static final int TENT = OriginRally.TENT;

    public static void main(String[] args) {
        nothingInANewObject();
        noObjectSharesWithAnother();
        answersUpToTheLastCall();
        beginsInTheStart();
        groundOfTheBook();
        headingsOfTheBook();
        setStartRange();
        setStartReturns();
        setStartWithEntries();
        setStartWithCars();
        setStartFirstException();
        addEntryCells();
        addEntryTurn();
        addEntryThirty();
        addEntryOffTheGround();
        addEntryFirstException();
        addGateNoSuchEntry();
        addGateAllowed();
        addGateGreaterThanLast();
        addGateTen();
        addGateFirstException();
        cutRange();
        cutReturns();
        cutOfMoreThanThereAre();
        gatesNoneToTen();
        cellOfNoSuchGate();
        dueNoSuchGate();
        dueLeastAndGreatest();
        CHECK.end("BookEdgesTest");
    }

    private static void nothingInANewObject() {
        CHECK.sentence("Promise 1", "An empty book; no cars, no parts.");
        Replay x = new Replay();
        CHECK.same("gates()", 0, x.gates());
        CHECK.refuses("addGate(0, 0)", x, Check.INDEX, r -> r.addGate(0, 0));
        CHECK.refuses("cellOf(0)", x, Check.INDEX, r -> r.cellOf(0));
        CHECK.refuses("due(0)", x, Check.INDEX, r -> r.due(0));
        CHECK.refuses("drive(0, 0, 0)", x, Check.INDEX, r -> r.drive(0, 0, 0));
        CHECK.refuses("stand(0, 1)", x, Check.INDEX, r -> r.stand(0, 1));
        CHECK.refuses("breakDown(0, 0)", x, Check.INDEX, r -> r.breakDown(0, 0));
        CHECK.refuses("mend(0)", x, Check.INDEX, r -> r.mend(0));
        CHECK.refuses("bring(0, 0)", x, Check.INDEX, r -> r.bring(0, 0));
        CHECK.refuses("hand(0, TENT)", x, Check.INDEX, r -> r.hand(0, TENT));
        CHECK.refuses("record(0, 0, 0)", x, Check.INDEX, r -> r.record(0, 0, 0));
        CHECK.refuses("appeal(0, 0)", x, Check.INDEX, r -> r.appeal(0, 0));
        CHECK.refuses("followed(0)", x, Check.INDEX, r -> r.followed(0));
        CHECK.refuses("cellAt(0, 0)", x, Check.INDEX, r -> r.cellAt(0, 0));
        CHECK.refuses("clock(0)", x, Check.INDEX, r -> r.clock(0));
        CHECK.refuses("byTrack(0, 0)", x, Check.INDEX, r -> r.byTrack(0, 0));
        CHECK.refuses("byMinutes(0, 0)", x, Check.INDEX, r -> r.byMinutes(0, 0));
        CHECK.refuses("time(0, 0)", x, Check.INDEX, r -> r.time(0, 0));
        CHECK.refuses("points(0)", x, Check.INDEX, r -> r.points(0));
        CHECK.refuses("table(0)", x, Check.INDEX, r -> r.table(0));
        CHECK.refuses("where(0)", x, Check.INDEX, r -> r.where(0));
        CHECK.refuses("lent(0)", x, Check.INDEX, r -> r.lent(0));
        CHECK.refuses("isBroken(0)", x, Check.INDEX, r -> r.isBroken(0));
    }

    private static void noObjectSharesWithAnother() {
        CHECK.sentence("Promise 1", "An empty book; no cars, no parts.");
        Replay used = new Replay();
        used.setStart(99);
        used.addEntry(1, 1);
        used.addGate(0, 0);
        used.cut(0);
        used.enter();
        used.breakDown(0, 0);
        used.bring(0, TENT);
        used.record(0, 0, 0);
        Replay x = new Replay();
        CHECK.same("gates()", 0, x.gates());
        CHECK.refuses("clock(0)", x, Check.INDEX, r -> r.clock(0));
        CHECK.refuses("where(0)", x, Check.INDEX, r -> r.where(0));
        CHECK.same("cut(10)", 10, x.cut(10));
        CHECK.same("setStart(0)", 0, x.setStart(0));
        CHECK.same("addEntry(1, 0)", 1, x.addEntry(1, 0));
        CHECK.same("addGate(0, 0)", 0, x.addGate(0, 0));
        CHECK.same("enter()", 0, x.enter());
        CHECK.same("time(0, 0)", OriginRally.NONE, x.time(0, 0));
        CHECK.yes("not isBroken(0)", !x.isBroken(0));
        CHECK.same("bring(0, TENT)", 0, x.bring(0, TENT));
    }

    private static void answersUpToTheLastCall() {
        CHECK.sentence("What it is", "An object is used for at most 512 calls after it has been made");
        Replay x = new Replay();
        x.addEntry(3, 0);
        x.addGate(0, 0);
        x.enter();
        for (int call = 4; call <= 504; call += 4) {
            CHECK.same("points(0)", 60, x.points(0));
            CHECK.same("table(0)", 0, x.table(0));
            CHECK.same("byMinutes(0, 0)", OriginRally.NONE, x.byMinutes(0, 0));
            CHECK.same("clock(0)", 0, x.clock(0));
        }
        CHECK.same("the call 508", 1, x.enter());
        CHECK.same("the call 509", 3, x.drive(1, 3, 0));
        CHECK.same("the call 510", 3, x.byTrack(1, 0));
        CHECK.same("the call 511", 1, x.table(0));
        CHECK.same("the call 512", 4, x.addEntry(1, 0));
    }

    private static void beginsInTheStart() {
        CHECK.sentence("Terms", "The book and all cars begin in the cell of the start, 0 at first, with the heading"
                + " 0.");
        Replay x = new Replay();
        CHECK.same("the car is in 0", 0, x.cellAt(x.enter(), 0));
        CHECK.same("the book goes to greater y", 1, x.addEntry(1, 0));
        CHECK.same("so does the car", 1, x.drive(0, 1, 0));
        CHECK.same("and is in 1", 1, x.cellAt(0, 1));
        Replay y = new Replay();
        y.setStart(255);
        CHECK.refuses("a book that begins at the greatest y", y, Check.STATE, r -> r.addEntry(1, 0));
        CHECK.same("the car is in 255", 255, y.cellAt(y.enter(), 0));
        CHECK.refuses("a car that begins there", y, Check.STATE, r -> r.drive(0, 1, 0));
    }

    /** From every cell of the ground's rim, and with each heading, no cell beyond it is one of the ground. */
    private static void groundOfTheBook() {
        CHECK.sentence("Terms", "The ground has cells with x and y from 0 to 15");
        for (int along = 1; along < 15; along++) {
            rim(Setup.cell(along, 14), 0, 1, Setup.cell(along, 15));
            rim(Setup.cell(14, along), 1, 16, Setup.cell(15, along));
            rim(Setup.cell(along, 1), 2, -1, Setup.cell(along, 0));
            rim(Setup.cell(1, along), 3, -16, Setup.cell(0, along));
        }
        rim(Setup.cell(0, 1), 2, -1, 0);
        rim(Setup.cell(1, 15), 3, -16, 15);
        rim(Setup.cell(14, 0), 1, 16, 240);
        rim(Setup.cell(15, 14), 0, 1, 255);
    }

    private static void rim(int beside, int heading, int step, int last) {
        Replay x = new Replay();
        boolean hasRoomAbove = beside % 16 < 15;
        x.setStart(hasRoomAbove ? beside : beside - 1);
        // Here the book's way on and back brings it beside the rim with the heading that is asked.
        x.addEntry(1, hasRoomAbove ? 2 : heading);
        if (hasRoomAbove) {
            x.addEntry(1, (heading + 2) % 4);
        }
        CHECK.refuses("two cells on from " + beside, x, Check.STATE, r -> r.addEntry(2, 0));
        CHECK.same("one cell on from " + beside, last, x.addEntry(1, 0));
        CHECK.same("as far as " + step, step, last - beside);
        CHECK.refuses("one cell more from " + last, x, Check.STATE, r -> r.addEntry(1, 0));
    }

    private static void headingsOfTheBook() {
        CHECK.sentence("Terms", "A heading is 0 for greater y, 1 for greater x, 2 for lesser y, 3 for lesser x.");
        int[] step = {1, 16, -1, -16};
        for (int heading = 0; heading < 4; heading++) {
            for (int turn = 0; turn < 4; turn++) {
                Replay x = new Replay();
                x.setStart(Setup.cell(7, 7));
                x.addEntry(1, heading);
                int cell = Setup.cell(7, 8) + step[heading];
                CHECK.same("heading " + heading, cell, x.addEntry(1, turn));
                cell += step[(heading + turn) % 4];
                CHECK.same("heading " + heading + " turned by " + turn, cell, x.addEntry(1, 0));
            }
        }
    }

    private static void setStartRange() {
        CHECK.sentence("Promise 2", "cell: 0 to 255: its code; Throws IllegalArgumentException if cell is out of"
                + " range");
        Replay x = new Replay();
        x.setStart(255);
        CHECK.same("255 was taken", 255, x.setStart(0));
        CHECK.same("0 was taken", 0, x.setStart(1));
        for (int cell : Setup.beside(0, 255)) {
            CHECK.refuses("setStart(" + cell + ")", x, Check.ARGUMENT, r -> r.setStart(cell));
        }
        CHECK.same("no refused one was taken", 1, x.setStart(1));
    }

    private static void setStartReturns() {
        CHECK.sentence("Promise 2", "Returns the cell that it was.");
        Replay x = new Replay();
        CHECK.same("0 at first", 0, x.setStart(7));
        CHECK.same("the same cell again", 7, x.setStart(7));
        CHECK.same("7 still", 7, x.setStart(255));
        CHECK.same("255 then", 255, x.setStart(0));
        CHECK.same("and 0 again", 0, x.setStart(0));
    }

    private static void setStartWithEntries() {
        CHECK.sentence("Promise 2", "Throws IllegalStateException if there are entries or cars");
        Replay x = new Replay();
        x.bring(0, TENT);
        x.cut(3);
        CHECK.same("with a part and a cut, but neither entries nor cars", 0, x.setStart(20));
        x.addEntry(1, 0);
        CHECK.refuses("with one entry", x, Check.STATE, r -> r.setStart(0));
        CHECK.refuses("the same cell with one entry", x, Check.STATE, r -> r.setStart(20));
        Replay full = Setup.withEntries(30, 1);
        CHECK.refuses("with thirty entries", full, Check.STATE, r -> r.setStart(5));
    }

    private static void setStartWithCars() {
        CHECK.sentence("Promise 2", "Throws IllegalStateException if there are entries or cars");
        Replay x = Setup.withCars(1, 20);
        CHECK.refuses("with one car", x, Check.STATE, r -> r.setStart(0));
        CHECK.refuses("the same cell with one car", x, Check.STATE, r -> r.setStart(20));
        Replay full = Setup.withCars(8, 20);
        CHECK.refuses("with eight cars", full, Check.STATE, r -> r.setStart(0));
    }

    private static void setStartFirstException() {
        CHECK.sentence("Promise 2", "If several apply, the one that the throws clause names first is thrown.");
        Replay x = Setup.withCars(1, 20);
        CHECK.refuses("-1 with a car", x, Check.ARGUMENT, r -> r.setStart(-1));
        Replay y = Setup.withEntries(1, 1);
        CHECK.refuses("256 with an entry", y, Check.ARGUMENT, r -> r.setStart(256));
    }

    private static void addEntryCells() {
        CHECK.sentence("Promise 3", "cells: 1 to 15; Throws IllegalArgumentException if cells or turn is out of"
                + " range");
        Replay x = new Replay();
        CHECK.same("addEntry(1, 2)", 1, x.addEntry(1, 2));
        CHECK.same("addEntry(1, 2) back", 0, x.addEntry(1, 2));
        CHECK.same("addEntry(15, 2)", 15, x.addEntry(15, 2));
        for (int cells : Setup.beside(1, 15)) {
            CHECK.refuses("addEntry(" + cells + ", 0)", x, Check.ARGUMENT, r -> r.addEntry(cells, 0));
        }
        CHECK.same("addEntry(15, 2) back", 0, x.addEntry(15, 2));
    }

    private static void addEntryTurn() {
        CHECK.sentence("Promise 3", "turn: 0 to 3; Throws IllegalArgumentException if cells or turn is out of range");
        Replay x = new Replay();
        CHECK.same("addEntry(1, 0)", 1, x.addEntry(1, 0));
        for (int turn : Setup.beside(0, 3)) {
            CHECK.refuses("addEntry(1, " + turn + ")", x, Check.ARGUMENT, r -> r.addEntry(1, turn));
        }
        CHECK.same("the turn 0 is none", 2, x.addEntry(1, 3));
        CHECK.refuses("the turn 3 leads to lesser x", x, Check.STATE, r -> r.addEntry(1, 0));
    }

    private static void addEntryThirty() {
        CHECK.sentence("Promise 3", "Throws IllegalStateException if there are 30 entries, or it would lead off the"
                + " ground");
        Replay x = Setup.withEntries(29, 1);
        CHECK.same("the 30th", 0, x.addEntry(1, 2));
        CHECK.refuses("the 31st", x, Check.STATE, r -> r.addEntry(1, 2));
        CHECK.refuses("the 31st, longer", x, Check.STATE, r -> r.addEntry(15, 0));
        CHECK.same("the 30th has the number 29", 0, x.addGate(29, 0));
        CHECK.refuses("there is no 30", x, Check.INDEX, r -> r.addGate(30, 0));
    }

    private static void addEntryOffTheGround() {
        CHECK.sentence("Promise 3", "Throws IllegalStateException if there are 30 entries, or it would lead off the"
                + " ground");
        Replay x = new Replay();
        x.setStart(Setup.cell(3, 1));
        CHECK.refuses("15 cells where 14 are left", x, Check.STATE, r -> r.addEntry(15, 0));
        CHECK.same("14 cells", Setup.cell(3, 15), x.addEntry(14, 1));
        CHECK.refuses("13 cells where 12 are left", x, Check.STATE, r -> r.addEntry(13, 0));
        CHECK.same("12 cells", Setup.cell(15, 15), x.addEntry(12, 1));
        CHECK.same("all 15 cells", Setup.cell(15, 0), x.addEntry(15, 1));
        CHECK.same("all 15 cells", Setup.cell(0, 0), x.addEntry(15, 1));
        CHECK.same("a turn at the rim may look off the ground", Setup.cell(0, 2), x.addEntry(2, 3));
        CHECK.refuses("a stretch there may not lead off it", x, Check.STATE, r -> r.addEntry(1, 2));
    }

    private static void addEntryFirstException() {
        CHECK.sentence("Promise 3", "If several apply, the one that the throws clause names first is thrown.");
        Replay x = Setup.withEntries(30, 1);
        CHECK.refuses("no cells as the 31st", x, Check.ARGUMENT, r -> r.addEntry(0, 0));
        CHECK.refuses("the turn 4 in the 31st", x, Check.ARGUMENT, r -> r.addEntry(1, 4));
        Replay y = new Replay();
        y.setStart(15);
        CHECK.refuses("16 cells off the ground", y, Check.ARGUMENT, r -> r.addEntry(16, 0));
        CHECK.refuses("the turn -1 off the ground", y, Check.ARGUMENT, r -> r.addEntry(1, -1));
    }

    private static void addGateNoSuchEntry() {
        CHECK.sentence("Promise 4", "Throws IndexOutOfBoundsException if there is no such entry");
        Replay x = new Replay();
        CHECK.refuses("addGate(0, 0) without entries", x, Check.INDEX, r -> r.addGate(0, 0));
        x.addEntry(1, 0);
        x.addEntry(1, 0);
        x.addEntry(1, 0);
        for (int entry : Setup.besideNumbers(3)) {
            CHECK.refuses("addGate(" + entry + ", 0) with three", x, Check.INDEX, r -> r.addGate(entry, 0));
        }
        CHECK.same("the least entry", 0, x.addGate(0, 0));
        CHECK.same("the greatest entry", 1, x.addGate(2, 0));
        CHECK.refuses("the next one", x, Check.INDEX, r -> r.addGate(3, 0));
    }

    private static void addGateAllowed() {
        CHECK.sentence("Promise 4", "allowed: 0 to 100; Throws IllegalArgumentException if allowed is out of range");
        Replay x = Setup.withEntries(3, 1);
        CHECK.same("addGate(0, 0)", 0, x.addGate(0, 0));
        CHECK.same("addGate(1, 100)", 1, x.addGate(1, 100));
        CHECK.same("nothing is allowed beside the way", 1, x.due(0));
        CHECK.same("100 minutes are", 102, x.due(1));
        for (int allowed : Setup.beside(0, 100)) {
            CHECK.refuses("addGate(2, " + allowed + ")", x, Check.ARGUMENT, r -> r.addGate(2, allowed));
        }
    }

    private static void addGateGreaterThanLast() {
        CHECK.sentence("Promise 4", "entry: its number, greater than that of the last gate");
        Replay x = Setup.withEntries(30, 1);
        CHECK.same("the entry 4, with none ahead", 0, x.addGate(4, 0));
        CHECK.refuses("the same one", x, Check.ARGUMENT, r -> r.addGate(4, 0));
        CHECK.refuses("the one ahead of it", x, Check.ARGUMENT, r -> r.addGate(3, 0));
        CHECK.refuses("the entry 0", x, Check.ARGUMENT, r -> r.addGate(0, 0));
        CHECK.same("the next one", 1, x.addGate(5, 0));
        CHECK.refuses("between the two", x, Check.ARGUMENT, r -> r.addGate(4, 0));
        CHECK.same("the last one", 2, x.addGate(29, 0));
        CHECK.refuses("the last one again", x, Check.ARGUMENT, r -> r.addGate(29, 0));
    }

    private static void addGateTen() {
        CHECK.sentence("Promise 4", "Throws IllegalStateException if there are 10 gates");
        Replay x = Setup.withEntries(30, 1);
        for (int gate = 0; gate < 10; gate++) {
            CHECK.same("the gate " + gate, gate, x.addGate(2 * gate, 0));
        }
        CHECK.refuses("an 11th gate", x, Check.STATE, r -> r.addGate(19, 0));
        CHECK.refuses("an 11th gate at the last entry", x, Check.STATE, r -> r.addGate(29, 100));
        x.cut(0);
        CHECK.refuses("an 11th gate if none counts", x, Check.STATE, r -> r.addGate(29, 0));
    }

    private static void addGateFirstException() {
        CHECK.sentence("Promise 4", "If several apply, the one that the throws clause names first is thrown.");
        Replay x = Setup.withEntries(12, 1);
        x.addGate(1, 0);
        CHECK.refuses("no entry, 101 allowed", x, Check.INDEX, r -> r.addGate(12, 101));
        CHECK.refuses("no entry, -1, less than the last gate's", x, Check.INDEX, r -> r.addGate(-1, -1));
        for (int entry = 2; entry < 11; entry++) {
            x.addGate(entry, 0);
        }
        CHECK.refuses("no entry, ten gates", x, Check.INDEX, r -> r.addGate(12, 0));
        CHECK.refuses("no entry, 101 allowed, ten gates", x, Check.INDEX, r -> r.addGate(12, 101));
        CHECK.refuses("101 allowed, ten gates", x, Check.ARGUMENT, r -> r.addGate(11, 101));
        CHECK.refuses("-1 allowed, ten gates", x, Check.ARGUMENT, r -> r.addGate(11, -1));
        CHECK.refuses("the last gate's entry, ten gates", x, Check.ARGUMENT, r -> r.addGate(10, 0));
    }

    private static void cutRange() {
        CHECK.sentence("Promise 5", "gates: 0 to 10; Throws IllegalArgumentException if gates is out of range");
        Replay x = Setup.straight(10, 0);
        x.cut(4);
        for (int gates : Setup.beside(0, 10)) {
            CHECK.refuses("cut(" + gates + ")", x, Check.ARGUMENT, r -> r.cut(gates));
        }
        CHECK.same("cut(0)", 4, x.cut(0));
        CHECK.same("no gate counts", 0, x.points(0));
        x.cut(1);
        CHECK.same("the first one counts", 60, x.points(0));
        x.cut(9);
        CHECK.same("all but the last count", 540, x.points(0));
        x.cut(10);
        CHECK.same("all count", 600, x.points(0));
    }

    private static void cutReturns() {
        CHECK.sentence("Promise 5", "Returns how many counted so far, 10 if it was not cut.");
        Replay x = Setup.straight(10, 0);
        CHECK.same("not cut so far", 10, x.cut(10));
        CHECK.same("cut to ten is not cut", 10, x.cut(0));
        CHECK.same("none counted", 0, x.cut(0));
        CHECK.same("none counted still", 0, x.cut(9));
        CHECK.same("nine counted", 9, x.cut(10));
        CHECK.same("all counted", 10, x.cut(1));
        CHECK.same("10 in a new object without gates", 10, new Replay().cut(0));
    }

    private static void cutOfMoreThanThereAre() {
        CHECK.sentence("Terms", "All gates count at first; the stage can be cut short, so that only the first ones"
                + " do.");
        Replay x = Setup.straight(2, 0);
        CHECK.same("both count at first", 120, x.points(0));
        x.cut(2);
        CHECK.same("as many as there are", 120, x.points(0));
        x.cut(3);
        CHECK.same("one more than there are", 120, x.points(0));
        x.addEntry(1, 0);
        x.addGate(2, 0);
        CHECK.same("a third gate counts", 180, x.points(0));
        x.addEntry(1, 0);
        x.addGate(3, 0);
        CHECK.same("a fourth one does not", 180, x.points(0));
        CHECK.same("it is there all the same", 4, x.gates());
        x.cut(0);
        Replay none = Setup.withCars(1, 0);
        CHECK.same("no points without gates", 0, none.points(0));
        none.cut(0);
        CHECK.same("nor if cut", 0, none.points(0));
    }

    private static void gatesNoneToTen() {
        CHECK.sentence("Promise 15", "Returns how many gates there are.");
        Replay x = Setup.withEntries(30, 1);
        for (int gates = 0; gates < 10; gates++) {
            CHECK.same("gates()", gates, x.gates());
            x.addGate(gates, 0);
        }
        CHECK.same("gates() of ten", 10, x.gates());
        CHECK.refuses("an 11th", x, Check.STATE, r -> r.addGate(10, 0));
        CHECK.same("gates() of ten still", 10, x.gates());
    }

    private static void cellOfNoSuchGate() {
        CHECK.sentence("Promise 16", "Throws IndexOutOfBoundsException if there is no such gate");
        Replay x = Setup.withEntries(30, 15);
        CHECK.refuses("cellOf(0) of none", x, Check.INDEX, r -> r.cellOf(0));
        x.addGate(0, 0);
        CHECK.same("cellOf(0), at the first entry", 15, x.cellOf(0));
        x.addGate(29, 0);
        CHECK.same("cellOf(1), at the last entry", 0, x.cellOf(1));
        for (int gate : Setup.besideNumbers(2)) {
            CHECK.refuses("cellOf(" + gate + ")", x, Check.INDEX, r -> r.cellOf(gate));
        }
        Replay full = Setup.straight(10, 0);
        CHECK.same("cellOf(9) of ten", 10, full.cellOf(9));
        CHECK.refuses("cellOf(10) of ten", full, Check.INDEX, r -> r.cellOf(10));
    }

    private static void dueNoSuchGate() {
        CHECK.sentence("Promise 17", "Throws IndexOutOfBoundsException if there is no such gate");
        Replay x = Setup.withEntries(30, 15);
        CHECK.refuses("due(0) of none", x, Check.INDEX, r -> r.due(0));
        x.addGate(0, 0);
        x.addGate(1, 0);
        for (int gate : Setup.besideNumbers(2)) {
            CHECK.refuses("due(" + gate + ")", x, Check.INDEX, r -> r.due(gate));
        }
        Replay full = Setup.straight(10, 0);
        CHECK.same("due(9) of ten", 10, full.due(9));
        CHECK.refuses("due(10) of ten", full, Check.INDEX, r -> r.due(10));
    }

    private static void dueLeastAndGreatest() {
        CHECK.sentence("Terms", "Its due minute is the sum of the cells of all entries up to this one, and what is"
                + " allowed beside that.");
        Replay x = Setup.withEntries(30, 15);
        x.addGate(28, 100);
        x.addGate(29, 100);
        CHECK.same("all but the last entry", 29 * 15 + 100, x.due(0));
        CHECK.same("what was allowed ahead is not added", 30 * 15 + 100, x.due(1));
        Replay y = new Replay();
        y.addEntry(1, 1);
        y.addGate(0, 0);
        CHECK.same("the least due minute", 1, y.due(0));
        y.addEntry(15, 2);
        CHECK.same("entries behind it are not added", 1, y.due(0));
        y.addGate(1, 0);
        CHECK.same("those up to it are", 16, y.due(1));
    }
}
