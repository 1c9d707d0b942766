/** The boundary cases of parts, sentence by sentence: promises 11, 12, 26 and 27, and the terms they use. */
public final class PartEdgesTest {
    private static final Check CHECK = new Check();
    private static final int TENT = OriginRally.TENT, USED_UP = OriginRally.USED_UP;

    public static void main(String[] args) {
        constants();
        bringKind();
        bringOwner();
        bringWhereItIs();
        bringForty();
        bringFirstException();
        handNoSuchPart();
        handNoSuchPlace();
        handUsedUp();
        handThereAlready();
        handNotInTheSameCell();
        handTogether();
        handAtTheTent();
        handFirstException();
        whereNoSuchPart();
        wherePlaces();
        lentNoSuchCar();
        lentNoneToAll();
        lentUsedUp();
        CHECK.end("PartEdgesTest");
    }

    private static void constants() {
        CHECK.sentence("Terms", "TENT = -1, USED_UP = -2: Where a part is, besides cars, and who owns it.");
        CHECK.same("TENT", -1, OriginRally.TENT);
        CHECK.same("USED_UP", -2, OriginRally.USED_UP);
    }

    private static void bringKind() {
        CHECK.sentence("Promise 11", "kind: 0 to 3; Throws IndexOutOfBoundsException if there is no such kind or"
                + " car");
        Replay x = Setup.withCars(1, 0);
        for (int kind : Setup.beside(0, 3)) {
            CHECK.refuses("bring(" + kind + ", TENT)", x, Check.INDEX, r -> r.bring(kind, TENT));
            CHECK.refuses("bring(" + kind + ", 0)", x, Check.INDEX, r -> r.bring(kind, 0));
        }
        CHECK.same("bring(0, 0)", 0, x.bring(0, 0));
        CHECK.same("bring(3, 0)", 1, x.bring(3, 0));
        x.breakDown(0, 3);
        CHECK.same("the kind 3", 1, x.mend(0));
        x.breakDown(0, 0);
        CHECK.same("the kind 0", 0, x.mend(0));
    }

    private static void bringOwner() {
        CHECK.sentence("Promise 11", "owner: TENT, or the number of a car; Throws IndexOutOfBoundsException if"
                + " there is no such kind or car");
        Replay none = new Replay();
        CHECK.refuses("bring(0, 0) without cars", none, Check.INDEX, r -> r.bring(0, 0));
        CHECK.same("bring(0, TENT) without cars", 0, none.bring(0, TENT));
        Replay x = Setup.withCars(3, 0);
        for (int owner : Setup.besidePlaces(3)) {
            CHECK.refuses("bring(0, " + owner + ") of three", x, Check.INDEX, r -> r.bring(0, owner));
        }
        CHECK.same("bring(0, 0)", 0, x.bring(0, 0));
        CHECK.same("bring(0, 2)", 1, x.bring(0, 2));
        CHECK.same("the first car's", 0, x.where(0));
        CHECK.same("the last car's", 2, x.where(1));
        Replay full = Setup.withCars(8, 0);
        CHECK.same("bring(0, 7) of eight", 0, full.bring(0, 7));
        CHECK.refuses("bring(0, 8) of eight", full, Check.INDEX, r -> r.bring(0, 8));
    }

    private static void bringWhereItIs() {
        CHECK.sentence("Promise 11", "Brings a part, of the tent or of a car, where it is then.");
        Replay x = Setup.withCars(2, 0);
        x.drive(0, 15, 0);
        x.drive(1, 15, 0);
        x.bring(0, 0);
        x.bring(0, TENT);
        CHECK.same("in the car, far from the tent", 0, x.where(0));
        CHECK.same("together with another car", 0, x.hand(0, 1));
        CHECK.refuses("the tent's part is not with it", x, Check.STATE, r -> r.hand(1, 0));
    }

    private static void bringForty() {
        CHECK.sentence("Promise 11", "Throws IllegalStateException if there are 40");
        Replay x = Setup.withCars(1, 0);
        for (int part = 0; part < 40; part++) {
            CHECK.same("bring(0, 0)", part, x.bring(0, 0));
        }
        CHECK.refuses("the 41st, of a car", x, Check.STATE, r -> r.bring(0, 0));
        CHECK.refuses("the 41st, of the tent", x, Check.STATE, r -> r.bring(3, TENT));
        x.breakDown(0, 0);
        x.mend(0);
        CHECK.refuses("the 41st, though one is used up", x, Check.STATE, r -> r.bring(0, 0));
        x.hand(39, TENT);
        CHECK.refuses("the 41st, though one is handed over", x, Check.STATE, r -> r.bring(0, 0));
    }

    private static void bringFirstException() {
        CHECK.sentence("Promise 11", "If several apply, the one that the throws clause names first is thrown.");
        Replay x = Setup.withCars(1, 0);
        CHECK.refuses("no kind, no car", x, Check.INDEX, r -> r.bring(4, 1));
        for (int part = 0; part < 40; part++) {
            x.bring(0, TENT);
        }
        CHECK.refuses("no kind, forty parts", x, Check.INDEX, r -> r.bring(4, TENT));
        CHECK.refuses("no kind ahead of 0, forty parts", x, Check.INDEX, r -> r.bring(-1, 0));
        CHECK.refuses("no car, forty parts", x, Check.INDEX, r -> r.bring(0, 1));
        CHECK.refuses("used up as the owner, forty parts", x, Check.INDEX, r -> r.bring(0, USED_UP));
    }

    private static void handNoSuchPart() {
        CHECK.sentence("Promise 12", "Throws IndexOutOfBoundsException if there is no such part or car");
        Replay x = Setup.withCars(1, 0);
        CHECK.refuses("hand(0, 0) without parts", x, Check.INDEX, r -> r.hand(0, 0));
        x.bring(0, TENT);
        x.bring(0, TENT);
        x.bring(0, TENT);
        for (int part : Setup.besideNumbers(3)) {
            CHECK.refuses("hand(" + part + ", 0) of three", x, Check.INDEX, r -> r.hand(part, 0));
        }
        CHECK.same("the first", TENT, x.hand(0, 0));
        CHECK.same("the last", TENT, x.hand(2, 0));
        CHECK.same("not the one between", TENT, x.where(1));
        for (int part = 3; part < 40; part++) {
            x.bring(0, TENT);
        }
        CHECK.same("the last of forty", TENT, x.hand(39, 0));
        CHECK.refuses("hand(40, 0) of forty", x, Check.INDEX, r -> r.hand(40, 0));
    }

    private static void handNoSuchPlace() {
        CHECK.sentence("Promise 12", "to: TENT, or the number of a car; Throws IndexOutOfBoundsException if there"
                + " is no such part or car");
        Replay none = new Replay();
        none.bring(0, TENT);
        CHECK.refuses("hand(0, 0) without cars", none, Check.INDEX, r -> r.hand(0, 0));
        Replay x = Setup.withCars(3, 0);
        x.bring(0, 1);
        for (int to : Setup.besidePlaces(3)) {
            CHECK.refuses("hand(0, " + to + ") of three", x, Check.INDEX, r -> r.hand(0, to));
        }
        CHECK.same("to the last", 1, x.hand(0, 2));
        CHECK.same("to the first", 2, x.hand(0, 0));
        CHECK.same("to the tent", 0, x.hand(0, TENT));
        CHECK.same("from the tent", TENT, x.hand(0, 0));
        Replay full = Setup.withCars(8, 0);
        full.bring(0, TENT);
        CHECK.same("to the last of eight", TENT, full.hand(0, 7));
        CHECK.refuses("hand(0, 8) of eight", full, Check.INDEX, r -> r.hand(0, 8));
    }

    private static void handUsedUp() {
        CHECK.sentence("Promise 12", "Throws IllegalStateException if it is used up, or there already, or both"
                + " places are not in the same cell");
        Replay x = Setup.withCars(2, 0);
        x.bring(0, 1);
        x.hand(0, 0);
        x.breakDown(0, 0);
        x.mend(0);
        CHECK.refuses("to the tent", x, Check.STATE, r -> r.hand(0, TENT));
        CHECK.refuses("to the car that used it up", x, Check.STATE, r -> r.hand(0, 0));
        CHECK.refuses("to the car that owns it", x, Check.STATE, r -> r.hand(0, 1));
    }

    private static void handThereAlready() {
        CHECK.sentence("Promise 12", "Throws IllegalStateException if it is used up, or there already, or both"
                + " places are not in the same cell");
        Replay x = Setup.withCars(2, 0);
        x.bring(0, TENT);
        x.bring(0, 0);
        CHECK.refuses("from the tent to the tent", x, Check.STATE, r -> r.hand(0, TENT));
        CHECK.refuses("from a car to itself", x, Check.STATE, r -> r.hand(1, 0));
        x.hand(1, 1);
        CHECK.refuses("to the car that it was handed to", x, Check.STATE, r -> r.hand(1, 1));
        CHECK.same("back", 1, x.hand(1, 0));
        Replay none = new Replay();
        none.bring(0, TENT);
        CHECK.refuses("in the tent, without cars", none, Check.STATE, r -> r.hand(0, TENT));
    }

    private static void handNotInTheSameCell() {
        CHECK.sentence("Promise 12", "Throws IllegalStateException if it is used up, or there already, or both"
                + " places are not in the same cell");
        for (int heading = 0; heading < 4; heading++) {
            Replay x = Setup.withCars(2, Setup.cell(8, 8));
            x.bring(0, TENT);
            x.bring(0, 0);
            x.bring(0, 1);
            x.drive(1, 0, heading);
            CHECK.same("a turn leaves them together", TENT, x.hand(0, 1));
            CHECK.same("and back", 1, x.hand(0, TENT));
            x.drive(1, 1, 2);
            CHECK.refuses("from the tent to a car a cell away", x, Check.STATE, r -> r.hand(0, 1));
            CHECK.refuses("from a car a cell away to the tent", x, Check.STATE, r -> r.hand(2, TENT));
            CHECK.refuses("from a car to one a cell away", x, Check.STATE, r -> r.hand(1, 1));
            CHECK.refuses("from a car a cell away to a car", x, Check.STATE, r -> r.hand(2, 0));
            x.drive(1, 1, 0);
            CHECK.same("it has come back", 1, x.hand(2, 0));
        }
    }

    private static void handTogether() {
        CHECK.sentence("Terms", "Cars are together if their cells of now are the same, whatever their clocks tell.");
        Replay x = Setup.withCars(3, 0);
        x.bring(0, 0);
        x.drive(0, 3, 0);
        x.stand(1, 100);
        x.drive(1, 3, 2);
        CHECK.same("same cell, other clocks, other headings", 0, x.hand(0, 1));
        x.stand(2, 3);
        CHECK.refuses("same clock, other cells", x, Check.STATE, r -> r.hand(0, 2));
        x.drive(1, 3, 0);
        CHECK.refuses("the cell in which it was", x, Check.STATE, r -> r.hand(0, 0));
        CHECK.same("the cell in which it is", 1, x.hand(0, 2));
        x.breakDown(1, 0);
        CHECK.same("to a car that is broken down", 2, x.hand(0, 1));
    }

    private static void handAtTheTent() {
        CHECK.sentence("Terms", "The tent is in the cell of the start.");
        Replay x = Setup.withCars(1, 255);
        x.bring(0, TENT);
        CHECK.same("at the start", TENT, x.hand(0, 0));
        x.drive(0, 0, 2);
        x.drive(0, 15, 1);
        x.drive(0, 15, 0);
        CHECK.same("it is in the cell 0", 0, x.cellAt(0, 30));
        CHECK.refuses("in the cell 0, which is not the start", x, Check.STATE, r -> r.hand(0, TENT));
        Replay y = new Replay();
        y.bring(0, TENT);
        y.setStart(100);
        y.enter();
        CHECK.same("the tent goes with the start", TENT, y.hand(0, 0));
    }

    private static void handFirstException() {
        CHECK.sentence("Promise 12", "If several apply, the one that the throws clause names first is thrown.");
        Replay x = Setup.withCars(2, 0);
        x.bring(0, 0);
        x.drive(0, 1, 0);
        CHECK.refuses("no car, not in the same cell", x, Check.INDEX, r -> r.hand(0, 2));
        CHECK.refuses("no part, no car", x, Check.INDEX, r -> r.hand(1, 2));
        x.breakDown(0, 0);
        x.mend(0);
        CHECK.refuses("no car, used up", x, Check.INDEX, r -> r.hand(0, 2));
        CHECK.refuses("to be used up, used up", x, Check.INDEX, r -> r.hand(0, USED_UP));
    }

    private static void whereNoSuchPart() {
        CHECK.sentence("Promise 26", "Throws IndexOutOfBoundsException if there is no such part");
        Replay x = Setup.withCars(2, 0);
        CHECK.refuses("where(0) without parts", x, Check.INDEX, r -> r.where(0));
        x.bring(0, 1);
        x.bring(0, TENT);
        x.bring(0, 0);
        CHECK.same("the first", 1, x.where(0));
        CHECK.same("the last", 0, x.where(2));
        for (int part : Setup.besideNumbers(3)) {
            CHECK.refuses("where(" + part + ") of three", x, Check.INDEX, r -> r.where(part));
        }
        for (int part = 3; part < 40; part++) {
            x.bring(0, 1);
        }
        CHECK.same("the last of forty", 1, x.where(39));
        CHECK.refuses("where(40) of forty", x, Check.INDEX, r -> r.where(40));
    }

    private static void wherePlaces() {
        CHECK.sentence("Promise 26", "Returns TENT, USED_UP, or the number of a car.");
        Replay x = Setup.withCars(8, 0);
        x.bring(0, TENT);
        CHECK.same("the tent", TENT, x.where(0));
        x.hand(0, 0);
        CHECK.same("the first car", 0, x.where(0));
        x.hand(0, 7);
        CHECK.same("the last car", 7, x.where(0));
        x.breakDown(7, 0);
        x.mend(7);
        CHECK.same("used up", USED_UP, x.where(0));
    }

    private static void lentNoSuchCar() {
        CHECK.sentence("Promise 27", "Throws IndexOutOfBoundsException if there is no such car");
        Replay none = new Replay();
        none.bring(0, TENT);
        CHECK.refuses("lent(0) without cars", none, Check.INDEX, r -> r.lent(0));
        Replay x = Setup.withCars(3, 0);
        x.bring(0, 0);
        x.bring(0, 2);
        x.bring(0, 2);
        x.hand(0, 1);
        x.hand(1, 1);
        x.hand(2, 1);
        CHECK.same("the first", 1, x.lent(0));
        CHECK.same("the last", 2, x.lent(2));
        for (int car : Setup.besideNumbers(3)) {
            CHECK.refuses("lent(" + car + ") of three", x, Check.INDEX, r -> r.lent(car));
        }
    }

    private static void lentNoneToAll() {
        CHECK.sentence("Promise 27", "Returns how many parts of a car are not in it, but in another one, in the"
                + " tent");
        Replay x = Setup.withCars(2, 0);
        CHECK.same("without parts", 0, x.lent(0));
        for (int part = 0; part < 40; part++) {
            x.bring(0, 0);
        }
        CHECK.same("all forty are in it", 0, x.lent(0));
        for (int part = 0; part < 40; part++) {
            x.hand(part, part % 2 == 0 ? 1 : TENT);
            CHECK.same("with so many away", part + 1, x.lent(0));
        }
        CHECK.same("what is borrowed is not lent", 0, x.lent(1));
        x.hand(0, TENT);
        CHECK.same("from the other one to the tent", 40, x.lent(0));
        x.hand(39, 0);
        CHECK.same("given back", 39, x.lent(0));
        Replay y = Setup.withCars(1, 0);
        y.bring(0, TENT);
        CHECK.same("the tent's part in the tent", 0, y.lent(0));
        y.hand(0, 0);
        CHECK.same("the tent's part in it", 0, y.lent(0));
    }

    private static void lentUsedUp() {
        CHECK.sentence("Promise 27", "or were used up by another one");
        Replay x = Setup.withCars(3, 0);
        x.bring(0, 0);
        x.bring(0, 0);
        x.bring(0, 0);
        x.breakDown(0, 0);
        x.mend(0);
        CHECK.same("used up by itself", 0, x.lent(0));
        x.hand(1, 1);
        CHECK.same("in another one", 1, x.lent(0));
        x.breakDown(1, 0);
        x.mend(1);
        CHECK.same("used up by another one", 1, x.lent(0));
        x.hand(2, 1);
        x.hand(2, 2);
        x.hand(2, 0);
        x.breakDown(0, 0);
        x.mend(0);
        CHECK.same("lent, given back and used up by itself", 1, x.lent(0));
        CHECK.same("the other one owns none of them", 0, x.lent(1));
        CHECK.same("nor does the third", 0, x.lent(2));
        CHECK.looksChangeNothing(x);
    }
}
