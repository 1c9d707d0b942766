/** Promises 13, 14 and 21 to 25: times by tracks and by the van, appeals, points and the table. */
public final class TimeTest {
    private static final Check CHECK = new Check();
    private static final int NONE = OriginRally.NONE;
    private static final int LOWEST = Integer.MIN_VALUE, HIGHEST = Integer.MAX_VALUE;

    public static void main(String[] args) {
        promise13Record();
        promise13Refusals();
        promise14Appeal();
        promise14Refusals();
        promises21And22Order();
        promises21And22MissedGates();
        promises21And22LaterPass();
        promises21And22Edges();
        promise23Time();
        promise24Points();
        promise24Limits();
        promise24ByTrack();
        allTenGates();
        promise25Table();
        CHECK.end("TimeTest");
    }

    private static void promise13Record() {
        Replay x = Setup.straight(2, 0);
        x.enter();
        CHECK.same("not passed so far", NONE, x.record(0, 0, 0));
        CHECK.same("in place of what was recorded", 0, x.record(0, 0, 10000));
        CHECK.same("again", 10000, x.record(0, 0, 7));
        CHECK.same("time", 7, x.time(0, 0));
        CHECK.same("not at the other gate", NONE, x.time(0, 1));
        CHECK.same("not of the other car", NONE, x.time(1, 0));
        x.drive(0, 2, 0);
        CHECK.same("what is recorded stays", 7, x.time(0, 0));
        CHECK.same("passed by the track", 2, x.record(0, 1, 3));
        CHECK.same("and recorded then", 3, x.time(0, 1));
        CHECK.passes(x, 0, 1, 2);
        CHECK.same("a recorded time is no passing for later gates", 7, x.record(0, 0, 9000));
        CHECK.passes(x, 0, 1, 2);
    }

    private static void promise13Refusals() {
        Replay x = Setup.straight(2, 0);
        x.record(0, 0, 4);
        for (int minute : new int[] {-1, 10001, LOWEST, HIGHEST}) {
            CHECK.refuses("record(0, 0, " + minute + ")", x, Check.ARGUMENT, r -> r.record(0, 0, minute));
        }
        CHECK.refuses("no car ahead of the minute", x, Check.INDEX, r -> r.record(1, 0, -1));
        CHECK.refuses("no gate ahead of the minute", x, Check.INDEX, r -> r.record(0, 2, -1));
        CHECK.same("nothing was recorded", 4, x.time(0, 0));
    }

    private static void promise14Appeal() {
        Replay x = Setup.straight(2, 0);
        x.record(0, 0, 5);
        CHECK.same("points by the van, and 60", 64, x.points(0));
        CHECK.yes("it had not passed by its track", x.appeal(0, 0));
        CHECK.same("what was recorded is dropped", NONE, x.time(0, 0));
        CHECK.same("no points for it", 120, x.points(0));
        x.drive(0, 1, 0);
        x.record(0, 0, 1);
        CHECK.yes("the time by the track: lost", !x.appeal(0, 0));
        CHECK.same("what is recorded stays", 1, x.time(0, 0));
        CHECK.same("10 points for it", 70, x.points(0));
        CHECK.yes("lost again", !x.appeal(0, 0));
        CHECK.same("10 points each time", 80, x.points(0));
        x.record(0, 0, 2);
        CHECK.yes("a minute beside it: not lost", x.appeal(0, 0));
        CHECK.same("the lost ones are not given back", 80, x.points(0));
        x.cut(0);
        CHECK.same("nor if no gate counts", 20, x.points(0));
        x.enter();
        CHECK.same("the other car lost none", 0, x.points(1));
    }

    private static void promise14Refusals() {
        Replay x = Setup.straight(2, 0);
        x.enter();
        CHECK.refuses("nothing recorded", x, Check.STATE, r -> r.appeal(0, 0));
        x.drive(0, 1, 0);
        CHECK.refuses("nothing recorded though passed", x, Check.STATE, r -> r.appeal(0, 0));
        x.record(0, 0, 0);
        CHECK.refuses("recorded at the other gate", x, Check.STATE, r -> r.appeal(0, 1));
        CHECK.refuses("recorded for the other car", x, Check.STATE, r -> r.appeal(1, 0));
        CHECK.yes("the minute 0 is recorded", x.appeal(0, 0));
        CHECK.refuses("dropped already", x, Check.STATE, r -> r.appeal(0, 0));
    }

    private static void promises21And22Order() {
        Replay x = new Replay();
        x.setStart(16 * 8 + 8);
        x.addEntry(3, 1);
        x.addEntry(2, 1);
        x.addEntry(3, 1);
        x.addEntry(2, 1);
        for (int entry = 0; entry < 4; entry++) {
            x.addGate(entry, 0);
        }
        x.enter();
        CHECK.passes(x, 0, NONE, NONE, NONE, 0);
        x.stand(0, 4);
        x.drive(0, 3, 1);
        CHECK.passes(x, 0, 7, NONE, NONE, NONE);
        x.drive(0, 2, 1);
        CHECK.passes(x, 0, 7, 9, NONE, NONE);
        x.stand(0, 2);
        x.drive(0, 3, 1);
        CHECK.passes(x, 0, 7, 9, 14, NONE);
        x.drive(0, 2, 1);
        CHECK.passes(x, 0, 7, 9, 14, 16);
        x.drive(0, 3, 1);
        CHECK.passes(x, 0, 7, 9, 14, 16);
        x.enter();
        x.drive(1, 5, 2);
        CHECK.passes(x, 1, 3, NONE, NONE, NONE);
    }

    private static void promises21And22MissedGates() {
        Replay x = new Replay();
        x.addEntry(2, 1);
        x.addEntry(3, 2);
        x.addEntry(3, 1);
        x.addEntry(4, 2);
        x.addGate(0, 0);
        x.addGate(1, 0);
        x.addGate(2, 0);
        x.addGate(3, 0);
        x.enter();
        // The gate 1 is missed; the gate 2 lies in the cell of the gate 0, and is passed in the same minute.
        x.drive(0, 2, 0);
        CHECK.passes(x, 0, 2, NONE, 2, NONE);
        x.drive(0, 4, 0);
        CHECK.passes(x, 0, 2, NONE, 2, 6);
        // Without the gate 0 nothing holds the later ones back.
        Replay y = new Replay();
        y.setStart(5);
        y.addEntry(4, 2);
        y.addEntry(3, 0);
        y.addEntry(2, 0);
        y.addGate(0, 0);
        y.addGate(1, 0);
        y.addGate(2, 0);
        y.enter();
        y.drive(0, 1, 2);
        CHECK.passes(y, 0, NONE, 1, NONE);
        y.drive(0, 2, 0);
        CHECK.passes(y, 0, NONE, 1, 3);
    }

    private static void promises21And22LaterPass() {
        Replay x = new Replay();
        x.addEntry(3, 2);
        x.addEntry(1, 0);
        x.addGate(0, 0);
        x.addGate(1, 0);
        x.enter();
        x.drive(0, 2, 0);
        CHECK.passes(x, 0, NONE, 2);
        x.drive(0, 1, 2);
        CHECK.passes(x, 0, 3, NONE);
        x.stand(0, 9);
        x.drive(0, 2, 0);
        CHECK.passes(x, 0, 3, 13);
        x.addEntry(2, 0);
        x.addGate(2, 0);
        CHECK.passes(x, 0, 3, 13, NONE);
        x.drive(0, 1, 0);
        CHECK.passes(x, 0, 3, 13, 15);
    }

    private static void promises21And22Edges() {
        Replay x = new Replay();
        x.setStart(16 * 3 + 3);
        x.addEntry(1, 2);
        x.addEntry(1, 2);
        x.addGate(1, 0);
        x.enter();
        CHECK.passes(x, 0, 0);
        x.stand(0, 5);
        x.drive(0, 1, 2);
        CHECK.passes(x, 0, 0);
        x.enter();
        x.drive(1, 0, 1);
        CHECK.passes(x, 1, 0);
        x.drive(1, 2, 2);
        CHECK.passes(x, 1, 0);

        Replay y = new Replay();
        y.addEntry(5, 1);
        y.addEntry(5, 2);
        y.addEntry(2, 0);
        y.addGate(0, 0);
        y.addGate(1, 0);
        y.addGate(2, 0);
        y.enter();
        y.drive(0, 15, 2);
        y.drive(0, 10, 3);
        CHECK.passes(y, 0, 5, NONE, NONE);
        y.drive(0, 15, 2);
        // It saw the cell of the gate 2 two minutes ahead of that of the gate 1.
        CHECK.passes(y, 0, 5, 30, NONE);
        y.drive(0, 15, 0);
        CHECK.passes(y, 0, 5, 30, 52);
        y.enter();
        // Standing in a gate's cell: the minute is the first in it that the gate ahead leaves.
        y.drive(1, 5, 1);
        y.stand(1, 40);
        y.drive(1, 5, 2);
        y.stand(1, 3);
        y.drive(1, 5, 0);
        CHECK.passes(y, 1, 5, 50, 55);
        CHECK.same("its clock", 58, y.clock(1));

        Replay z = new Replay();
        z.addEntry(4, 2);
        z.addEntry(2, 2);
        z.addEntry(2, 0);
        z.addGate(0, 0);
        z.addGate(2, 0);
        z.enter();
        z.drive(0, 4, 0);
        z.stand(0, 6);
        CHECK.passes(z, 0, 4, 4);
        CHECK.looksChangeNothing(z);
    }

    private static void promise23Time() {
        Replay x = Setup.straight(2, 0);
        CHECK.same("not passed", NONE, x.time(0, 0));
        x.drive(0, 1, 0);
        CHECK.same("by the track", 1, x.time(0, 0));
        x.record(0, 0, 30);
        CHECK.same("by the van", 30, x.time(0, 0));
        CHECK.passes(x, 0, 1, NONE);
        x.record(0, 1, 0);
        CHECK.same("by the van though not passed", 0, x.time(0, 1));
        CHECK.passes(x, 0, 1, NONE);
        x.appeal(0, 0);
        CHECK.same("by the track again", 1, x.time(0, 0));
        x.appeal(0, 1);
        CHECK.same("not passed again", NONE, x.time(0, 1));
    }

    private static void promise24Points() {
        Replay x = Setup.straight(3, 10);
        CHECK.same("absent at all", 180, x.points(0));
        x.stand(0, 10);
        x.drive(0, 3, 0);
        CHECK.same("in time at all", 0, x.points(0));
        x.record(0, 0, 10);
        CHECK.same("a minute early", 2, x.points(0));
        x.record(0, 1, 13);
        CHECK.same("and one late", 3, x.points(0));
        x.record(0, 2, 0);
        CHECK.same("and 13 early", 29, x.points(0));
        x.enter();
        x.record(1, 0, 11);
        CHECK.same("recorded, so not absent", 120, x.points(1));
    }

    private static void promise24Limits() {
        Replay x = Setup.straight(1, 100);
        x.record(0, 0, 101 + 59);
        CHECK.same("59 late", 59, x.points(0));
        x.record(0, 0, 101 + 60);
        CHECK.same("60 late", 60, x.points(0));
        x.record(0, 0, 101 + 61);
        CHECK.same("61 late", 60, x.points(0));
        x.record(0, 0, 10000);
        CHECK.same("far too late", 60, x.points(0));
        x.record(0, 0, 101 - 29);
        CHECK.same("29 early", 58, x.points(0));
        x.record(0, 0, 101 - 30);
        CHECK.same("30 early", 60, x.points(0));
        x.record(0, 0, 101 - 31);
        CHECK.same("31 early", 60, x.points(0));
        x.record(0, 0, 0);
        CHECK.same("far too early", 60, x.points(0));
        x.record(0, 0, 101);
        CHECK.same("in time", 0, x.points(0));
        Replay y = Setup.straight(10, 0);
        CHECK.same("all ten are missed", 600, y.points(0));
        y.drive(0, 1, 0);
        y.record(0, 0, 1);
        y.appeal(0, 0);
        CHECK.same("lost appeals are over and above", 550, y.points(0));
    }

    private static void promise24ByTrack() {
        Replay x = new Replay();
        x.addEntry(3, 2);
        x.addEntry(1, 0);
        x.addEntry(2, 0);
        x.addGate(0, 0);
        x.addGate(1, 0);
        x.addGate(2, 0);
        x.enter();
        CHECK.same("the gate in the start's cell is passed at 0, due at 6", 60 + 60 + 12, x.points(0));
        x.drive(0, 2, 0);
        CHECK.same("the gate 1 is passed at 2, due at 4", 60 + 4 + 60, x.points(0));
        x.drive(0, 1, 2);
        CHECK.same("the gate 0 takes that pass away", 0 + 60 + 60, x.points(0));
        x.stand(0, 5);
        x.drive(0, 3, 0);
        CHECK.same("then both are late by 5", 0 + 5 + 5, x.points(0));
        x.record(0, 0, 10000);
        CHECK.same("a recorded time holds no gate back", 60 + 5 + 5, x.points(0));

        Replay y = new Replay();
        y.addEntry(1, 2);
        y.addEntry(1, 2);
        y.addGate(1, 0);
        y.enter();
        y.drive(0, 1, 2);
        y.drive(0, 1, 2);
        CHECK.same("passed at 0, two minutes early", 4, y.points(0));
    }

    private static void allTenGates() {
        Replay x = Setup.straight(10, 0);
        x.drive(0, 10, 0);
        for (int gate = 0; gate < 10; gate++) {
            CHECK.same("by the track at " + gate, gate + 1, x.record(0, gate, 20 + gate));
        }
        for (int gate = 0; gate < 10; gate++) {
            CHECK.same("by the van at " + gate, 20 + gate, x.time(0, gate));
        }
        CHECK.same("each is 19 late", 190, x.points(0));
        for (int gate = 9; gate >= 0; gate--) {
            int asked = gate;
            CHECK.yes("appeal at " + gate, x.appeal(0, gate));
            CHECK.refuses("appeal again at " + gate, x, Check.STATE, r -> r.appeal(0, asked));
            CHECK.same("points then", 19 * gate, x.points(0));
        }
        for (int gate : new int[] {-1, 10, 11, LOWEST, HIGHEST}) {
            CHECK.refuses("byTrack(0, " + gate + ") of ten", x, Check.INDEX, r -> r.byTrack(0, gate));
            CHECK.refuses("byMinutes(0, " + gate + ") of ten", x, Check.INDEX, r -> r.byMinutes(0, gate));
            CHECK.refuses("time(0, " + gate + ") of ten", x, Check.INDEX, r -> r.time(0, gate));
            CHECK.refuses("record(0, " + gate + ", 1) of ten", x, Check.INDEX, r -> r.record(0, gate, 1));
            CHECK.refuses("appeal(0, " + gate + ") of ten", x, Check.INDEX, r -> r.appeal(0, gate));
        }
    }

    private static void promise25Table() {
        Replay x = Setup.straight(1, 50);
        CHECK.same("one car", 0, x.table(0));
        CHECK.refuses("table(1) of one", x, Check.INDEX, r -> r.table(1));
        x.enter();
        x.enter();
        x.enter();
        CHECK.table(x, 0, 1, 2, 3);
        x.record(2, 0, 51);
        CHECK.table(x, 2, 0, 1, 3);
        x.record(3, 0, 50);
        CHECK.table(x, 2, 3, 0, 1);
        x.record(1, 0, 53);
        CHECK.table(x, 2, 1, 3, 0);
        x.record(0, 0, 51);
        CHECK.table(x, 0, 2, 1, 3);
        x.cut(0);
        CHECK.table(x, 0, 1, 2, 3);
        x.drive(0, 1, 0);
        x.record(0, 0, 1);
        x.appeal(0, 0);
        CHECK.table(x, 1, 2, 3, 0);
        for (int place : new int[] {-1, 4, 8, LOWEST, HIGHEST}) {
            CHECK.refuses("table(" + place + ")", x, Check.INDEX, r -> r.table(place));
        }
        for (int car = 4; car < 8; car++) {
            x.enter();
        }
        CHECK.table(x, 1, 2, 3, 4, 5, 6, 7, 0);
        x.cut(1);
        CHECK.table(x, 2, 1, 3, 4, 5, 6, 7, 0);
        CHECK.refuses("table(8) of eight", x, Check.INDEX, r -> r.table(8));
    }
}
