/** The boundary cases of cars, sentence by sentence: promises 6 to 10, 18 to 20 and 28, and the terms they use. */
public final class CarEdgesTest {
    private static final Check CHECK = new Check();
    private static final int TENT = OriginRally.TENT, USED_UP = OriginRally.USED_UP;

    public static void main(String[] args) {
        enterEight();
        enterLater();
        groundOfTheCars();
        headingsOfTheCars();
        driveNoSuchCar();
        driveCells();
        driveTurn();
        driveNothing();
        driveBroken();
        driveSixtyPieces();
        driveOffTheGround();
        driveFirstException();
        standNoSuchCar();
        standMinutes();
        standSixtyPieces();
        standBroken();
        standFirstException();
        breakDownNoSuchCar();
        breakDownKind();
        breakDownTwice();
        breakDownFirstException();
        mendNoSuchCar();
        mendNotBroken();
        mendSixtyPieces();
        mendNoPart();
        mendLowestNumber();
        mendMinutes();
        mendFirstException();
        followedNoSuchCar();
        followedNothing();
        followedFirstOther();
        followedAll();
        cellAtNoSuchCar();
        cellAtMinute();
        cellAtJoints();
        cellAtFirstException();
        clockNoSuchCar();
        clockLeastAndGreatest();
        isBrokenNoSuchCar();
        isBrokenUntilMended();
        CHECK.end("CarEdgesTest");
    }

    private static void enterEight() {
        CHECK.sentence("Promise 6", "Throws IllegalStateException if there are 8");
        Replay x = new Replay();
        for (int car = 0; car < 8; car++) {
            CHECK.same("enter()", car, x.enter());
        }
        CHECK.refuses("a ninth car", x, Check.STATE, Replay::enter);
        CHECK.same("the eighth is there", 0, x.clock(7));
        CHECK.refuses("there is no 8", x, Check.INDEX, r -> r.clock(8));
    }

    private static void enterLater() {
        CHECK.sentence("Terms", "Each has a clock, 0 at first");
        Replay x = Setup.withCars(1, 36);
        x.drive(0, 4, 1);
        x.breakDown(0, 1);
        CHECK.same("a second car", 1, x.enter());
        CHECK.same("its clock", 0, x.clock(1));
        CHECK.same("its cell", 36, x.cellAt(1, 0));
        CHECK.yes("it is not broken down", !x.isBroken(1));
        CHECK.same("its heading is 0", 2, x.drive(1, 2, 0));
        CHECK.same("its cell then", 38, x.cellAt(1, 2));
    }

    private static void groundOfTheCars() {
        CHECK.sentence("Terms", "The ground has cells with x and y from 0 to 15");
        for (int along = 0; along <= 15; along++) {
            rim(Setup.cell(along, 14), 0, Setup.cell(along, 15));
            rim(Setup.cell(14, along), 1, Setup.cell(15, along));
            rim(Setup.cell(along, 1), 2, Setup.cell(along, 0));
            rim(Setup.cell(1, along), 3, Setup.cell(0, along));
        }
    }

    private static void rim(int beside, int heading, int last) {
        Replay x = Setup.withCars(1, beside);
        x.drive(0, 0, heading);
        CHECK.refuses("two cells on from " + beside, x, Check.STATE, r -> r.drive(0, 2, 0));
        x.drive(0, 1, 0);
        CHECK.same("one cell on from " + beside, last, x.cellAt(0, 1));
        CHECK.refuses("one cell more from " + last, x, Check.STATE, r -> r.drive(0, 1, 0));
        CHECK.same("no cell more from " + last, 1, x.drive(0, 0, 2));
        CHECK.same("and back", 2, x.drive(0, 1, 0));
        CHECK.same("it is back", beside, x.cellAt(0, 2));
    }

    private static void headingsOfTheCars() {
        CHECK.sentence("Terms", "A heading is 0 for greater y, 1 for greater x, 2 for lesser y, 3 for lesser x.");
        int[] step = {1, 16, -1, -16};
        for (int heading = 0; heading < 4; heading++) {
            for (int turn = 0; turn < 4; turn++) {
                Replay x = Setup.withCars(1, Setup.cell(7, 7));
                x.drive(0, 0, heading);
                x.drive(0, 1, turn);
                x.drive(0, 2, 0);
                int cell = Setup.cell(7, 7) + step[heading];
                CHECK.same("heading " + heading, cell, x.cellAt(0, 1));
                cell += step[(heading + turn) % 4];
                CHECK.same("heading " + heading + " turned by " + turn, cell, x.cellAt(0, 2));
            }
        }
    }

    private static void driveNoSuchCar() {
        CHECK.sentence("Promise 7", "Throws IndexOutOfBoundsException if there is no such car");
        CHECK.refuses("drive(0, 0, 0) without cars", new Replay(), Check.INDEX, r -> r.drive(0, 0, 0));
        Replay x = Setup.withCars(3, 0);
        for (int car : Setup.besideNumbers(3)) {
            CHECK.refuses("drive(" + car + ", 1, 0) of three", x, Check.INDEX, r -> r.drive(car, 1, 0));
        }
        CHECK.same("the first", 1, x.drive(0, 1, 0));
        CHECK.same("the last", 2, x.drive(2, 2, 0));
        CHECK.same("the one between", 0, x.clock(1));
        Replay full = Setup.withCars(8, 0);
        CHECK.same("the last of eight", 1, full.drive(7, 1, 0));
        CHECK.refuses("drive(8, 1, 0) of eight", full, Check.INDEX, r -> r.drive(8, 1, 0));
    }

    private static void driveCells() {
        CHECK.sentence("Promise 7", "cells: 0 to 15; Throws IllegalArgumentException if cells or turn is out of"
                + " range");
        Replay x = Setup.withCars(1, 0);
        CHECK.same("drive(0, 0, 0)", 0, x.drive(0, 0, 0));
        CHECK.same("drive(0, 15, 2)", 15, x.drive(0, 15, 2));
        for (int cells : Setup.beside(0, 15)) {
            CHECK.refuses("drive(0, " + cells + ", 0)", x, Check.ARGUMENT, r -> r.drive(0, cells, 0));
        }
        CHECK.same("drive(0, 15, 0) back", 30, x.drive(0, 15, 0));
        CHECK.same("its cell", 0, x.cellAt(0, 30));
    }

    private static void driveTurn() {
        CHECK.sentence("Promise 7", "turn: 0 to 3; Throws IllegalArgumentException if cells or turn is out of range");
        Replay x = Setup.withCars(1, Setup.cell(5, 5));
        x.drive(0, 0, 0);
        for (int turn : Setup.beside(0, 3)) {
            CHECK.refuses("drive(0, 1, " + turn + ")", x, Check.ARGUMENT, r -> r.drive(0, 1, turn));
        }
        x.drive(0, 1, 3);
        CHECK.same("the turn 0 was none", Setup.cell(5, 6), x.cellAt(0, 1));
        x.drive(0, 1, 0);
        CHECK.same("the turn 3 leads to lesser x", Setup.cell(4, 6), x.cellAt(0, 2));
    }

    private static void driveNothing() {
        CHECK.sentence("Terms", "driving straight on takes a minute for each cell, and turning takes none");
        Replay x = Setup.withCars(1, 255);
        CHECK.same("no cell, no turn", 0, x.drive(0, 0, 0));
        CHECK.same("no cell, three quarters", 0, x.drive(0, 0, 3));
        CHECK.same("one cell, three quarters", 1, x.drive(0, 1, 3));
        CHECK.same("no cell, two quarters", 1, x.drive(0, 0, 2));
        CHECK.same("its cell", Setup.cell(14, 15), x.cellAt(0, 1));
        for (int piece = 4; piece < 60; piece++) {
            CHECK.same("a piece of no cell", 1, x.drive(0, 0, 1));
        }
        CHECK.refuses("the 61st piece of no cell", x, Check.STATE, r -> r.drive(0, 0, 1));
    }

    private static void driveBroken() {
        CHECK.sentence("Promise 7", "Throws IllegalStateException if it is broken down, its track has 60 pieces, or"
                + " it would leave the ground");
        for (int kind = 0; kind < 4; kind++) {
            int by = kind;
            Replay x = Setup.withCars(2, 0);
            x.drive(0, 1, 0);
            x.breakDown(0, by);
            CHECK.refuses("a cell, broken by " + by, x, Check.STATE, r -> r.drive(0, 1, 0));
            CHECK.refuses("no cell, broken by " + by, x, Check.STATE, r -> r.drive(0, 0, 0));
            CHECK.refuses("a turn, broken by " + by, x, Check.STATE, r -> r.drive(0, 0, 1));
            CHECK.same("the other one", 1, x.drive(1, 1, 0));
            x.bring(by, 0);
            CHECK.refuses("with the part, but not mended", x, Check.STATE, r -> r.drive(0, 1, 0));
            x.mend(0);
            CHECK.same("mended", 3 * by + 5, x.drive(0, 1, 0));
        }
    }

    private static void driveSixtyPieces() {
        CHECK.sentence("Promise 7", "Throws IllegalStateException if it is broken down, its track has 60 pieces, or"
                + " it would leave the ground");
        Replay x = Setup.withCars(2, 0);
        Setup.fill(x, 0, 59);
        CHECK.same("the 60th", 60, x.drive(0, 1, 2));
        CHECK.refuses("the 61st", x, Check.STATE, r -> r.drive(0, 1, 2));
        CHECK.refuses("the 61st, of no cell", x, Check.STATE, r -> r.drive(0, 0, 0));
        CHECK.refuses("the 61st, of a turn", x, Check.STATE, r -> r.drive(0, 0, 3));
        CHECK.same("another car", 1, x.drive(1, 1, 0));
        Replay y = Setup.withCars(1, 0);
        for (int piece = 0; piece < 59; piece++) {
            y.stand(0, 1);
        }
        CHECK.same("the 60th behind standing", 74, y.drive(0, 15, 0));
        CHECK.refuses("the 61st behind standing", y, Check.STATE, r -> r.drive(0, 0, 0));
    }

    private static void driveOffTheGround() {
        CHECK.sentence("Promise 7", "Throws IllegalStateException if it is broken down, its track has 60 pieces, or"
                + " it would leave the ground");
        Replay x = Setup.withCars(1, Setup.cell(3, 1));
        CHECK.refuses("15 cells where 14 are left", x, Check.STATE, r -> r.drive(0, 15, 0));
        CHECK.refuses("15 cells and a turn where 14 are left", x, Check.STATE, r -> r.drive(0, 15, 1));
        CHECK.same("14 cells", 14, x.drive(0, 14, 1));
        CHECK.refuses("13 cells where 12 are left", x, Check.STATE, r -> r.drive(0, 13, 0));
        CHECK.same("12 cells", 26, x.drive(0, 12, 1));
        CHECK.same("all 15 cells", 41, x.drive(0, 15, 1));
        CHECK.same("all 15 cells", 56, x.drive(0, 15, 3));
        CHECK.refuses("a cell where none is left", x, Check.STATE, r -> r.drive(0, 1, 0));
        CHECK.same("no cell where none is left", 56, x.drive(0, 0, 1));
        CHECK.refuses("a cell off the other rim", x, Check.STATE, r -> r.drive(0, 1, 0));
        CHECK.same("its cell", 0, x.cellAt(0, 56));
    }

    private static void driveFirstException() {
        CHECK.sentence("Promise 7", "If several apply, the one that the throws clause names first is thrown.");
        Replay x = Setup.withCars(2, 15);
        CHECK.refuses("no car, 16 cells", x, Check.INDEX, r -> r.drive(2, 16, 0));
        CHECK.refuses("no car, the turn -1", x, Check.INDEX, r -> r.drive(-1, 0, -1));
        CHECK.refuses("16 cells off the ground", x, Check.ARGUMENT, r -> r.drive(0, 16, 0));
        CHECK.refuses("the turn 4 off the ground", x, Check.ARGUMENT, r -> r.drive(0, 1, 4));
        x.breakDown(0, 0);
        CHECK.refuses("-1 cells, broken down", x, Check.ARGUMENT, r -> r.drive(0, -1, 0));
        CHECK.refuses("the turn 4, broken down", x, Check.ARGUMENT, r -> r.drive(0, 0, 4));
        for (int piece = 0; piece < 60; piece++) {
            x.drive(1, 0, 0);
        }
        CHECK.refuses("16 cells as the 61st piece", x, Check.ARGUMENT, r -> r.drive(1, 16, 0));
        CHECK.refuses("the turn -1 in the 61st piece", x, Check.ARGUMENT, r -> r.drive(1, 0, -1));
    }

    private static void standNoSuchCar() {
        CHECK.sentence("Promise 8", "Throws IndexOutOfBoundsException if there is no such car");
        CHECK.refuses("stand(0, 1) without cars", new Replay(), Check.INDEX, r -> r.stand(0, 1));
        Replay x = Setup.withCars(3, 0);
        for (int car : Setup.besideNumbers(3)) {
            CHECK.refuses("stand(" + car + ", 1) of three", x, Check.INDEX, r -> r.stand(car, 1));
        }
        CHECK.same("the first", 1, x.stand(0, 1));
        CHECK.same("the last", 2, x.stand(2, 2));
        CHECK.same("the one between", 0, x.clock(1));
        CHECK.refuses("stand(8, 1) of eight", Setup.withCars(8, 0), Check.INDEX, r -> r.stand(8, 1));
    }

    private static void standMinutes() {
        CHECK.sentence("Promise 8", "minutes: 1 to 100; Throws IllegalArgumentException if minutes is out of range");
        Replay x = Setup.withCars(1, 77);
        CHECK.same("stand(0, 1)", 1, x.stand(0, 1));
        CHECK.same("stand(0, 100)", 101, x.stand(0, 100));
        for (int minutes : Setup.beside(1, 100)) {
            CHECK.refuses("stand(0, " + minutes + ")", x, Check.ARGUMENT, r -> r.stand(0, minutes));
        }
        CHECK.same("its cell", 77, x.cellAt(0, 101));
    }

    private static void standSixtyPieces() {
        CHECK.sentence("Promise 8", "Throws IllegalStateException if its track has 60 pieces");
        Replay x = Setup.withCars(2, 0);
        Setup.fill(x, 0, 59);
        CHECK.same("the 60th", 159, x.stand(0, 100));
        CHECK.refuses("the 61st", x, Check.STATE, r -> r.stand(0, 1));
        CHECK.same("another car", 1, x.stand(1, 1));
        for (int piece = 2; piece <= 60; piece++) {
            CHECK.same("standing again is a piece of its own", piece, x.stand(1, 1));
        }
        CHECK.refuses("the 61st behind standing", x, Check.STATE, r -> r.stand(1, 1));
    }

    private static void standBroken() {
        CHECK.sentence("Terms", "A car that breaks down by a kind cannot drive until it is mended");
        Replay x = Setup.withCars(1, 0);
        x.breakDown(0, 3);
        CHECK.same("but it can stand", 100, x.stand(0, 100));
        CHECK.yes("and is broken down still", x.isBroken(0));
    }

    private static void standFirstException() {
        CHECK.sentence("Promise 8", "If several apply, the one that the throws clause names first is thrown.");
        Replay x = Setup.withCars(1, 0);
        CHECK.refuses("no car, no minutes", x, Check.INDEX, r -> r.stand(1, 0));
        Setup.fill(x, 0, 60);
        CHECK.refuses("no car, 101 minutes", x, Check.INDEX, r -> r.stand(-1, 101));
        CHECK.refuses("no minutes as the 61st piece", x, Check.ARGUMENT, r -> r.stand(0, 0));
        CHECK.refuses("101 minutes as the 61st piece", x, Check.ARGUMENT, r -> r.stand(0, 101));
    }

    private static void breakDownNoSuchCar() {
        CHECK.sentence("Promise 9", "Throws IndexOutOfBoundsException if there is no such car or kind");
        CHECK.refuses("breakDown(0, 0) without cars", new Replay(), Check.INDEX, r -> r.breakDown(0, 0));
        Replay x = Setup.withCars(3, 0);
        for (int car : Setup.besideNumbers(3)) {
            CHECK.refuses("breakDown(" + car + ", 0) of three", x, Check.INDEX, r -> r.breakDown(car, 0));
        }
        x.breakDown(0, 0);
        x.breakDown(2, 0);
        CHECK.yes("the first", x.isBroken(0));
        CHECK.yes("not the one between", !x.isBroken(1));
        CHECK.yes("the last", x.isBroken(2));
        CHECK.refuses("breakDown(8, 0) of eight", Setup.withCars(8, 0), Check.INDEX, r -> r.breakDown(8, 0));
    }

    private static void breakDownKind() {
        CHECK.sentence("Promise 9", "kind: 0 to 3; Throws IndexOutOfBoundsException if there is no such car or kind");
        Replay x = Setup.withCars(2, 0);
        for (int kind : Setup.beside(0, 3)) {
            CHECK.refuses("breakDown(0, " + kind + ")", x, Check.INDEX, r -> r.breakDown(0, kind));
        }
        x.breakDown(0, 0);
        CHECK.yes("the kind 0", x.isBroken(0));
        x.breakDown(1, 3);
        CHECK.yes("the kind 3", x.isBroken(1));
    }

    private static void breakDownTwice() {
        CHECK.sentence("Promise 9", "Throws IllegalStateException if it is broken down");
        for (int kind = 0; kind < 4; kind++) {
            int by = kind;
            Replay x = Setup.withCars(1, 0);
            x.breakDown(0, by);
            CHECK.refuses("by the same kind", x, Check.STATE, r -> r.breakDown(0, by));
            CHECK.refuses("by another kind", x, Check.STATE, r -> r.breakDown(0, 3 - by));
            x.bring(3 - by, 0);
            x.bring(by, 0);
            CHECK.same("it is broken by the first kind", 1, x.mend(0));
            x.breakDown(0, 3 - by);
            CHECK.same("mended, it breaks down again", 0, x.mend(0));
        }
        Replay full = Setup.withCars(1, 0);
        Setup.fill(full, 0, 60);
        full.breakDown(0, 0);
        CHECK.yes("it breaks down behind its last piece", full.isBroken(0));
    }

    private static void breakDownFirstException() {
        CHECK.sentence("Promise 9", "If several apply, the one that the throws clause names first is thrown.");
        Replay x = Setup.withCars(1, 0);
        x.breakDown(0, 0);
        CHECK.refuses("no kind, broken down", x, Check.INDEX, r -> r.breakDown(0, 4));
        CHECK.refuses("no kind ahead of 0, broken down", x, Check.INDEX, r -> r.breakDown(0, -1));
        CHECK.refuses("no car, no kind", x, Check.INDEX, r -> r.breakDown(1, 4));
    }

    private static void mendNoSuchCar() {
        CHECK.sentence("Promise 10", "Throws IndexOutOfBoundsException if there is no such car");
        CHECK.refuses("mend(0) without cars", new Replay(), Check.INDEX, r -> r.mend(0));
        Replay x = Setup.withCars(3, 0);
        for (int car = 0; car < 3; car++) {
            x.bring(0, car);
            x.breakDown(car, 0);
        }
        for (int car : Setup.besideNumbers(3)) {
            CHECK.refuses("mend(" + car + ") of three", x, Check.INDEX, r -> r.mend(car));
        }
        CHECK.same("the last", 2, x.mend(2));
        CHECK.same("the first", 0, x.mend(0));
        CHECK.yes("not the one between", x.isBroken(1));
    }

    private static void mendNotBroken() {
        CHECK.sentence("Promise 10", "Throws IllegalStateException if it is not broken down, or its track has 60"
                + " pieces");
        Replay x = Setup.withCars(2, 0);
        x.bring(0, 0);
        x.bring(0, 0);
        x.breakDown(1, 0);
        CHECK.refuses("not broken, with a part", x, Check.STATE, r -> r.mend(0));
        x.breakDown(0, 0);
        CHECK.same("broken", 0, x.mend(0));
        CHECK.refuses("mended already", x, Check.STATE, r -> r.mend(0));
    }

    private static void mendSixtyPieces() {
        CHECK.sentence("Promise 10", "Throws IllegalStateException if it is not broken down, or its track has 60"
                + " pieces");
        Replay x = Setup.withCars(1, 0);
        x.bring(2, 0);
        x.bring(2, 0);
        Setup.fill(x, 0, 59);
        x.breakDown(0, 2);
        CHECK.same("mending as the 60th", 0, x.mend(0));
        CHECK.same("its clock", 68, x.clock(0));
        x.breakDown(0, 2);
        CHECK.refuses("mending as the 61st", x, Check.STATE, r -> r.mend(0));
        CHECK.refuses("standing behind it", x, Check.STATE, r -> r.stand(0, 1));
        CHECK.same("the part is there still", 0, x.where(1));
    }

    private static void mendNoPart() {
        CHECK.sentence("Promise 10", "Throws java.util.NoSuchElementException if it has no part of the kind");
        Replay x = Setup.withCars(2, 0);
        x.breakDown(0, 1);
        CHECK.refuses("without parts", x, Check.ELEMENT, r -> r.mend(0));
        x.bring(0, 0);
        x.bring(2, 0);
        x.bring(3, 0);
        CHECK.refuses("with the other kinds", x, Check.ELEMENT, r -> r.mend(0));
        x.bring(1, TENT);
        CHECK.refuses("with one in the tent, though it is there", x, Check.ELEMENT, r -> r.mend(0));
        x.bring(1, 1);
        CHECK.refuses("with one in another car", x, Check.ELEMENT, r -> r.mend(0));
        x.bring(1, 0);
        x.hand(5, 1);
        CHECK.refuses("with one of its own in another car", x, Check.ELEMENT, r -> r.mend(0));
        x.hand(4, 0);
        CHECK.same("with one of another car in it", 4, x.mend(0));
        x.breakDown(0, 1);
        CHECK.refuses("with one that is used up", x, Check.ELEMENT, r -> r.mend(0));
    }

    private static void mendLowestNumber() {
        CHECK.sentence("Terms", "that uses up the part of this kind in the car with the lowest number");
        Replay x = Setup.withCars(2, 0);
        x.bring(1, 0);
        x.bring(0, TENT);
        x.bring(0, 1);
        x.bring(0, 0);
        x.bring(0, 0);
        x.breakDown(0, 0);
        x.hand(1, 0);
        CHECK.same("the lowest, though it came last", 1, x.mend(0));
        x.breakDown(0, 0);
        CHECK.same("the next one that is in it", 3, x.mend(0));
        x.breakDown(0, 0);
        CHECK.same("the last one", 4, x.mend(0));
        CHECK.same("used up", USED_UP, x.where(1));
        CHECK.same("the one in the other car is not", 1, x.where(2));
        Replay full = Setup.withCars(1, 0);
        for (int part = 0; part < 39; part++) {
            full.bring(0, 0);
        }
        full.bring(3, 0);
        full.breakDown(0, 3);
        CHECK.same("the last of forty", 39, full.mend(0));
        full.breakDown(0, 0);
        CHECK.same("the first of forty", 0, full.mend(0));
    }

    private static void mendMinutes() {
        CHECK.sentence("Terms", "takes 3 times as many minutes as 1 more than the kind: 3, 6, 9 or 12");
        int[] due = {3, 6, 9, 12};
        for (int kind = 0; kind < 4; kind++) {
            Replay x = Setup.withCars(1, 50);
            x.drive(0, 2, 1);
            x.bring(kind, 0);
            x.breakDown(0, kind);
            x.mend(0);
            CHECK.same("by the kind " + kind, 2 + due[kind], x.clock(0));
            CHECK.same("it stands", 52, x.cellAt(0, 2 + due[kind]));
            CHECK.same("its heading is kept", 3 + due[kind], x.drive(0, 1, 0));
            CHECK.same("its cell then", 68, x.cellAt(0, 3 + due[kind]));
        }
    }

    private static void mendFirstException() {
        CHECK.sentence("Promise 10", "If several apply, the one that the throws clause names first is thrown.");
        Replay x = Setup.withCars(1, 0);
        CHECK.refuses("not broken, no part", x, Check.STATE, r -> r.mend(0));
        Setup.fill(x, 0, 60);
        CHECK.refuses("not broken, no part, 60 pieces", x, Check.STATE, r -> r.mend(0));
        x.breakDown(0, 0);
        CHECK.refuses("no part, 60 pieces", x, Check.STATE, r -> r.mend(0));
    }

    private static void followedNoSuchCar() {
        CHECK.sentence("Promise 18", "Throws IndexOutOfBoundsException if there is no such car");
        CHECK.refuses("followed(0) without cars", new Replay(), Check.INDEX, r -> r.followed(0));
        Replay x = Setup.withCars(3, 0);
        x.addEntry(1, 0);
        x.drive(0, 1, 0);
        x.drive(2, 1, 0);
        CHECK.same("the first", 1, x.followed(0));
        CHECK.same("the last", 1, x.followed(2));
        for (int car : Setup.besideNumbers(3)) {
            CHECK.refuses("followed(" + car + ") of three", x, Check.INDEX, r -> r.followed(car));
        }
    }

    private static void followedNothing() {
        CHECK.sentence("Promise 18", "of the pieces of its track that are driven, how many");
        Replay x = Setup.withCars(1, 0);
        CHECK.same("no pieces, no entries", 0, x.followed(0));
        x.addEntry(1, 0);
        CHECK.same("no pieces", 0, x.followed(0));
        x.stand(0, 1);
        CHECK.same("none that is driven", 0, x.followed(0));
        x.drive(0, 1, 0);
        CHECK.same("one that is driven", 1, x.followed(0));
        Replay y = Setup.withCars(1, 0);
        y.drive(0, 1, 0);
        CHECK.same("no entries", 0, y.followed(0));
        y.addEntry(1, 0);
        CHECK.same("an entry that is written later", 1, y.followed(0));
    }

    private static void followedFirstOther() {
        CHECK.sentence("Promise 18", "how many ahead of the first other one are entry by entry those of the book");
        for (int other = 0; other < 4; other++) {
            Replay x = Setup.withCars(3, Setup.cell(8, 8));
            for (int piece = 0; piece < 4; piece++) {
                x.addEntry(2, 2);
                x.drive(0, piece == other ? 1 : 2, 2);
                x.drive(1, 2, piece == other ? 0 : 2);
                if (piece == other) {
                    x.drive(2, 0, 0);
                }
                x.drive(2, 2, 2);
            }
            CHECK.same("other cells in the piece " + other, other, x.followed(0));
            CHECK.same("another turn in the piece " + other, other, x.followed(1));
            CHECK.same("a piece of no cell ahead of the piece " + other, other, x.followed(2));
        }
        Replay y = Setup.withEntries(2, 2);
        y.enter();
        y.drive(0, 2, 2);
        y.stand(0, 2);
        y.bring(0, 0);
        y.breakDown(0, 0);
        y.mend(0);
        y.drive(0, 2, 2);
        CHECK.same("standing and mending are not driven", 2, y.followed(0));
    }

    private static void followedAll() {
        CHECK.sentence("Promise 18", "how many ahead of the first other one are entry by entry those of the book");
        Replay x = Setup.withEntries(30, 1);
        x.enter();
        x.enter();
        Setup.fill(x, 0, 29);
        CHECK.same("all but one", 29, x.followed(0));
        Setup.fill(x, 0, 1);
        CHECK.same("all thirty", 30, x.followed(0));
        Setup.fill(x, 0, 30);
        CHECK.same("and thirty pieces more", 30, x.followed(0));
        for (int piece = 0; piece < 30; piece++) {
            x.stand(1, 1);
        }
        Setup.fill(x, 1, 30);
        CHECK.same("behind thirty pieces of standing", 30, x.followed(1));
    }

    private static void cellAtNoSuchCar() {
        CHECK.sentence("Promise 19", "Throws IndexOutOfBoundsException if there is no such car");
        CHECK.refuses("cellAt(0, 0) without cars", new Replay(), Check.INDEX, r -> r.cellAt(0, 0));
        Replay x = Setup.withCars(3, 9);
        x.drive(2, 1, 0);
        CHECK.same("the first", 9, x.cellAt(0, 0));
        CHECK.same("the last", 10, x.cellAt(2, 1));
        for (int car : Setup.besideNumbers(3)) {
            CHECK.refuses("cellAt(" + car + ", 0) of three", x, Check.INDEX, r -> r.cellAt(car, 0));
        }
    }

    private static void cellAtMinute() {
        CHECK.sentence("Promise 19", "minute: 0 to its clock; Throws IllegalArgumentException if minute is out of"
                + " range");
        Replay x = Setup.withCars(1, 30);
        CHECK.same("cellAt(0, 0) at the clock 0", 30, x.cellAt(0, 0));
        for (int minute : Setup.beside(0, 0)) {
            CHECK.refuses("cellAt(0, " + minute + ") at the clock 0", x, Check.ARGUMENT, r -> r.cellAt(0, minute));
        }
        x.drive(0, 0, 2);
        CHECK.refuses("cellAt(0, 1) behind a turn", x, Check.ARGUMENT, r -> r.cellAt(0, 1));
        x.drive(0, 4, 0);
        CHECK.same("cellAt(0, 0) at the clock 4", 30, x.cellAt(0, 0));
        CHECK.same("cellAt(0, 4) at the clock 4", 26, x.cellAt(0, 4));
        for (int minute : Setup.beside(0, 4)) {
            CHECK.refuses("cellAt(0, " + minute + ") at the clock 4", x, Check.ARGUMENT, r -> r.cellAt(0, minute));
        }
        x.stand(0, 100);
        CHECK.same("cellAt(0, 104) at the clock 104", 26, x.cellAt(0, 104));
        CHECK.refuses("cellAt(0, 105) at the clock 104", x, Check.ARGUMENT, r -> r.cellAt(0, 105));
    }

    private static void cellAtJoints() {
        CHECK.sentence("Terms", "At a minute m of its clock a car is in one cell: while it drives, so many cells on"
                + " as minutes have passed.");
        Replay x = Setup.withCars(1, Setup.cell(8, 8));
        x.drive(0, 0, 1);
        x.drive(0, 2, 2);
        x.drive(0, 0, 1);
        x.drive(0, 0, 3);
        x.stand(0, 2);
        x.drive(0, 1, 3);
        x.stand(0, 1);
        x.drive(0, 2, 0);
        x.drive(0, 0, 0);
        int[] due = {Setup.cell(8, 8), Setup.cell(9, 8), Setup.cell(10, 8), Setup.cell(10, 8), Setup.cell(10, 8),
            Setup.cell(9, 8), Setup.cell(9, 8), Setup.cell(9, 7), Setup.cell(9, 6)};
        for (int minute = 0; minute < due.length; minute++) {
            CHECK.same("cellAt(0, " + minute + ")", due[minute], x.cellAt(0, minute));
        }
        for (int minute = due.length - 1; minute >= 0; minute--) {
            CHECK.same("cellAt(0, " + minute + ") again", due[minute], x.cellAt(0, minute));
        }
        CHECK.refuses("behind the last", x, Check.ARGUMENT, r -> r.cellAt(0, due.length));
        CHECK.looksChangeNothing(x);
        x.enter();
        x.drive(1, 3, 1);
        CHECK.same("at the begin of its one piece", Setup.cell(8, 8), x.cellAt(1, 0));
        CHECK.same("on its one piece", Setup.cell(8, 10), x.cellAt(1, 2));
        CHECK.same("at the end of its one piece", Setup.cell(8, 11), x.cellAt(1, 3));
        x.drive(1, 1, 0);
        CHECK.same("on the piece ahead of the last", Setup.cell(8, 10), x.cellAt(1, 2));
        CHECK.same("at the end of the last", Setup.cell(9, 11), x.cellAt(1, 4));
    }

    private static void cellAtFirstException() {
        CHECK.sentence("Promise 19", "If several apply, the one that the throws clause names first is thrown.");
        Replay x = Setup.withCars(1, 0);
        CHECK.refuses("no car, -1", x, Check.INDEX, r -> r.cellAt(1, -1));
        CHECK.refuses("no car, a minute behind all clocks", x, Check.INDEX, r -> r.cellAt(-1, 1));
    }

    private static void clockNoSuchCar() {
        CHECK.sentence("Promise 20", "Throws IndexOutOfBoundsException if there is no such car");
        CHECK.refuses("clock(0) without cars", new Replay(), Check.INDEX, r -> r.clock(0));
        Replay x = Setup.withCars(3, 0);
        x.stand(0, 7);
        x.stand(2, 9);
        CHECK.same("the first", 7, x.clock(0));
        CHECK.same("the last", 9, x.clock(2));
        for (int car : Setup.besideNumbers(3)) {
            CHECK.refuses("clock(" + car + ") of three", x, Check.INDEX, r -> r.clock(car));
        }
    }

    private static void clockLeastAndGreatest() {
        CHECK.sentence("Terms", "standing takes the minutes that are told");
        Replay x = Setup.withCars(1, 99);
        CHECK.same("the least", 0, x.clock(0));
        for (int piece = 1; piece <= 60; piece++) {
            CHECK.same("stand(0, 100)", 100 * piece, x.stand(0, 100));
        }
        CHECK.same("the greatest", 6000, x.clock(0));
        CHECK.same("its cell at its last minute", 99, x.cellAt(0, 6000));
        CHECK.refuses("the minute behind it", x, Check.ARGUMENT, r -> r.cellAt(0, 6001));
    }

    private static void isBrokenNoSuchCar() {
        CHECK.sentence("Promise 28", "Throws IndexOutOfBoundsException if there is no such car");
        CHECK.refuses("isBroken(0) without cars", new Replay(), Check.INDEX, r -> r.isBroken(0));
        Replay x = Setup.withCars(3, 0);
        x.breakDown(2, 0);
        CHECK.yes("not the first", !x.isBroken(0));
        CHECK.yes("the last", x.isBroken(2));
        for (int car : Setup.besideNumbers(3)) {
            CHECK.refuses("isBroken(" + car + ") of three", x, Check.INDEX, r -> r.isBroken(car));
        }
    }

    private static void isBrokenUntilMended() {
        CHECK.sentence("Promise 28", "Tells whether a car is broken down.");
        for (int kind = 0; kind < 4; kind++) {
            Replay x = Setup.withCars(1, 0);
            CHECK.yes("not at first", !x.isBroken(0));
            x.breakDown(0, kind);
            CHECK.yes("broken by the kind " + kind, x.isBroken(0));
            CHECK.refuses("mending without a part", x, Check.ELEMENT, r -> r.mend(0));
            CHECK.yes("broken still", x.isBroken(0));
            x.bring(kind, 0);
            x.mend(0);
            CHECK.yes("mended", !x.isBroken(0));
        }
    }
}
