/** Promises 11, 12, 26 and 27: parts that are brought, handed over, used up and lent. */
public final class PartTest {
    private static final Check CHECK = new Check();
    private static final int TENT = OriginRally.TENT, USED_UP = OriginRally.USED_UP;
    private static final int LOWEST = Integer.MIN_VALUE, HIGHEST = Integer.MAX_VALUE;

    public static void main(String[] args) {
        promise11Bring();
        promise12Hand();
        promise12Cells();
        promise26Where();
        promise27Lent();
        CHECK.end("PartTest");
    }

    private static void promise11Bring() {
        Replay x = Setup.withCars(2, 9);
        CHECK.same("for the tent", 0, x.bring(0, TENT));
        CHECK.same("it is there", TENT, x.where(0));
        x.drive(1, 3, 0);
        CHECK.same("for a car", 1, x.bring(3, 1));
        CHECK.same("it is in it, wherever it is", 1, x.where(1));
        for (int kind : new int[] {-1, 4, LOWEST, HIGHEST}) {
            CHECK.refuses("bring(" + kind + ", TENT)", x, Check.INDEX, r -> r.bring(kind, TENT));
        }
        for (int owner : new int[] {USED_UP, 2, 8, LOWEST, HIGHEST}) {
            CHECK.refuses("bring(0, " + owner + ")", x, Check.INDEX, r -> r.bring(0, owner));
        }
        for (int part = 2; part < 40; part++) {
            CHECK.same("bring", part, x.bring(part % 4, part % 3 - 1));
        }
        CHECK.refuses("a 41st part", x, Check.STATE, r -> r.bring(0, TENT));
        CHECK.refuses("a 41st part of no kind", x, Check.INDEX, r -> r.bring(4, TENT));
        CHECK.refuses("a 41st part of no car", x, Check.INDEX, r -> r.bring(0, 2));
        CHECK.same("the 40th", -1, x.where(39));
        for (int part : new int[] {-1, 40, 41, LOWEST, HIGHEST}) {
            CHECK.refuses("where(" + part + ") of forty", x, Check.INDEX, r -> r.where(part));
            CHECK.refuses("hand(" + part + ", TENT) of forty", x, Check.INDEX, r -> r.hand(part, TENT));
        }
        x.breakDown(1, 3);
        CHECK.same("its kind is the one told", 1, x.mend(1));
        CHECK.refuses("a part used up counts all the same", x, Check.STATE, r -> r.bring(0, TENT));
    }

    private static void promise12Hand() {
        Replay x = Setup.withCars(2, 20);
        x.bring(0, TENT);
        x.bring(0, 0);
        x.bring(1, 1);
        CHECK.same("from the tent to a car", TENT, x.hand(0, 1));
        CHECK.same("from a car to a car", 1, x.hand(0, 0));
        CHECK.same("from a car to the tent", 0, x.hand(0, TENT));
        CHECK.refuses("to the tent again", x, Check.STATE, r -> r.hand(0, TENT));
        CHECK.refuses("to its own car", x, Check.STATE, r -> r.hand(1, 0));
        for (int part : new int[] {-1, 3, 40, LOWEST, HIGHEST}) {
            CHECK.refuses("hand(" + part + ", 0)", x, Check.INDEX, r -> r.hand(part, 0));
        }
        for (int to : new int[] {USED_UP, 2, 8, LOWEST, HIGHEST}) {
            CHECK.refuses("hand(0, " + to + ")", x, Check.INDEX, r -> r.hand(0, to));
        }
        x.breakDown(0, 0);
        x.mend(0);
        CHECK.refuses("used up, to the tent", x, Check.STATE, r -> r.hand(1, TENT));
        CHECK.refuses("used up, to the car that had it", x, Check.STATE, r -> r.hand(1, 0));
        CHECK.refuses("used up, to a car", x, Check.STATE, r -> r.hand(1, 1));
        CHECK.refuses("used up, to no car", x, Check.INDEX, r -> r.hand(1, 2));
        x.breakDown(1, 1);
        CHECK.same("to a broken car", TENT, x.hand(0, 1));
    }

    private static void promise12Cells() {
        Replay x = Setup.withCars(3, 20);
        x.bring(0, TENT);
        x.bring(0, 0);
        x.drive(1, 1, 2);
        CHECK.refuses("tent to a car that is away", x, Check.STATE, r -> r.hand(0, 1));
        CHECK.refuses("car to a car that is away", x, Check.STATE, r -> r.hand(1, 1));
        x.stand(2, 50);
        CHECK.same("whatever the clocks tell", 0, x.hand(1, 2));
        CHECK.same("back", 2, x.hand(1, 0));
        x.drive(1, 1, 2);
        CHECK.same("it has come back", TENT, x.hand(0, 1));
        x.drive(1, 2, 0);
        CHECK.refuses("a car away to the tent", x, Check.STATE, r -> r.hand(0, TENT));
        x.drive(0, 2, 0);
        CHECK.refuses("and to another at the start", x, Check.STATE, r -> r.hand(0, 2));
        CHECK.same("together elsewhere", 1, x.hand(0, 0));
        CHECK.refuses("elsewhere is not the tent", x, Check.STATE, r -> r.hand(1, TENT));
    }

    private static void promise26Where() {
        Replay x = Setup.withCars(2, 0);
        x.bring(2, TENT);
        x.bring(2, 1);
        CHECK.same("in the tent", TENT, x.where(0));
        CHECK.same("in a car", 1, x.where(1));
        x.hand(1, 0);
        CHECK.same("in another car", 0, x.where(1));
        x.breakDown(0, 2);
        CHECK.same("not used up ahead of mending", 0, x.where(1));
        x.mend(0);
        CHECK.same("used up", USED_UP, x.where(1));
        CHECK.same("the tent's part is there still", TENT, x.where(0));
        for (int part : new int[] {-1, 2, 40, LOWEST, HIGHEST}) {
            CHECK.refuses("where(" + part + ")", x, Check.INDEX, r -> r.where(part));
        }
    }

    private static void promise27Lent() {
        Replay x = Setup.withCars(3, 0);
        x.bring(0, 0);
        x.bring(1, 0);
        x.bring(2, 0);
        x.bring(0, TENT);
        CHECK.same("all are in it", 0, x.lent(0));
        x.hand(0, 1);
        CHECK.same("one is in another car", 1, x.lent(0));
        x.hand(1, TENT);
        CHECK.same("and one in the tent", 2, x.lent(0));
        x.hand(3, 1);
        CHECK.same("what it borrows is not its own", 0, x.lent(1));
        x.breakDown(1, 0);
        x.mend(1);
        CHECK.same("one was used up by another", 2, x.lent(0));
        x.breakDown(0, 2);
        x.mend(0);
        CHECK.same("one that it used up itself", 2, x.lent(0));
        x.hand(1, 2);
        CHECK.same("handed on, it is lent once", 2, x.lent(0));
        x.hand(1, 0);
        CHECK.same("given back", 1, x.lent(0));
        CHECK.same("of a car without parts", 0, x.lent(2));
        x.bring(3, 2);
        x.hand(4, 0);
        CHECK.same("of a later car", 1, x.lent(2));
        x.breakDown(0, 3);
        x.mend(0);
        CHECK.same("used up by the car 0", 1, x.lent(2));
        for (int car : new int[] {-2, -1, 3, 8, LOWEST, HIGHEST}) {
            CHECK.refuses("lent(" + car + ")", x, Check.INDEX, r -> r.lent(car));
        }
    }
}
