/** The boundary cases of times, sentence by sentence: promises 13, 14 and 21 to 25, and the terms they use. */
public final class TimeEdgesTest {
    private static final Check CHECK = new Check();
    private static final int NONE = OriginRally.NONE;

    public static void main(String[] args) {
        recordNoSuchCarOrGate();
        recordMinute();
        recordReturns();
        recordAllGates();
        recordFirstException();
        appealNoSuchCarOrGate();
        appealNothingRecorded();
        appealByTheMinute();
        appealNotPassed();
        appealLostAgain();
        appealFirstException();
        byTrackNoSuchCarOrGate();
        byMinutesNoSuchCarOrGate();
        passAtTheFirstMinute();
        passAtTheLastMinute();
        passOnAStretch();
        passFirstOfSeveral();
        passWhileStanding();
        passNotAheadOfTheLastGate();
        passBehindMissedGates();
        passWithNoGateAhead();
        passIsTakenAway();
        passAllTen();
        timeNoSuchCarOrGate();
        timeReturns();
        pointsNoSuchCar();
        pointsNone();
        pointsEarly();
        pointsLate();
        pointsAbsent();
        pointsInTheOrderOfGates();
        pointsAtMostSixtyAGate();
        pointsOfLostAppeals();
        tableNoSuchPlace();
        tableOfEqualPoints();
        tableInAllOrders();
        noneIsNoMinute();
        whatIsAskedChangesNothing();
        refusedQuestionsChangeNothing();
        CHECK.end("TimeEdgesTest");
    }

    /** Three cars and three gates, and all that the van could have recorded of the first and the last. */
    private static Replay threeByThree() {
        Replay x = Setup.straight(3, 0);
        x.enter();
        x.enter();
        x.record(0, 0, 5);
        x.record(2, 2, 7);
        return x;
    }

    private static void recordNoSuchCarOrGate() {
        CHECK.sentence("Promise 13", "Throws IndexOutOfBoundsException if there is no such car or gate");
        CHECK.refuses("record(0, 0, 0) without cars and gates", new Replay(), Check.INDEX, r -> r.record(0, 0, 0));
        CHECK.refuses("record(0, 0, 0) without gates", Setup.withCars(1, 0), Check.INDEX, r -> r.record(0, 0, 0));
        Replay noCar = Setup.withEntries(1, 1);
        noCar.addGate(0, 0);
        CHECK.refuses("record(0, 0, 0) without cars", noCar, Check.INDEX, r -> r.record(0, 0, 0));
        Replay x = threeByThree();
        for (int number : Setup.besideNumbers(3)) {
            CHECK.refuses("record(" + number + ", 0, 0)", x, Check.INDEX, r -> r.record(number, 0, 0));
            CHECK.refuses("record(0, " + number + ", 0)", x, Check.INDEX, r -> r.record(0, number, 0));
        }
        CHECK.same("the first car, the last gate", NONE, x.record(0, 2, 1));
        CHECK.same("the last car, the first gate", NONE, x.record(2, 0, 1));
        CHECK.same("the first of both", 5, x.record(0, 0, 1));
        CHECK.same("the last of both", 7, x.record(2, 2, 1));
    }

    private static void recordMinute() {
        CHECK.sentence("Promise 13", "minute: 0 to 10000; Throws IllegalArgumentException if minute is out of range");
        Replay x = Setup.straight(1, 0);
        x.record(0, 0, 0);
        CHECK.same("0", 0, x.time(0, 0));
        for (int minute : Setup.beside(0, 10000)) {
            CHECK.refuses("record(0, 0, " + minute + ") behind 0", x, Check.ARGUMENT, r -> r.record(0, 0, minute));
        }
        x.record(0, 0, 10000);
        CHECK.same("10000", 10000, x.time(0, 0));
        for (int minute : Setup.beside(0, 10000)) {
            CHECK.refuses("record(0, 0, " + minute + ") behind 10000", x, Check.ARGUMENT, r -> r.record(0, 0, minute));
        }
    }

    private static void recordReturns() {
        CHECK.sentence("Promise 13", "Returns the time that it had there; NONE if it had not passed.");
        Replay x = Setup.straight(2, 0);
        CHECK.same("not passed", NONE, x.record(0, 0, 0));
        CHECK.same("0 is a time", 0, x.record(0, 0, 0));
        CHECK.same("again", 0, x.record(0, 0, 10000));
        CHECK.same("10000 is one", 10000, x.record(0, 0, 1));
        x.drive(0, 2, 0);
        CHECK.same("passed by the track", 2, x.record(0, 1, 2));
        CHECK.same("the same time recorded", 2, x.record(0, 1, 3));
        CHECK.same("another one recorded", 3, x.record(0, 1, 3));
        x.appeal(0, 1);
        CHECK.same("by the track again", 2, x.record(0, 1, 0));
    }

    private static void recordAllGates() {
        CHECK.sentence("Promise 13", "Records a time of a car at a gate, in place of what was recorded.");
        Replay x = Setup.straight(10, 0);
        for (int car = 1; car < 8; car++) {
            x.enter();
        }
        for (int car = 0; car < 8; car++) {
            for (int gate = 0; gate < 10; gate++) {
                CHECK.same("record", NONE, x.record(car, gate, 100 * car + gate));
            }
        }
        for (int car = 0; car < 8; car++) {
            for (int gate = 0; gate < 10; gate++) {
                CHECK.same("time(" + car + ", " + gate + ")", 100 * car + gate, x.time(car, gate));
            }
        }
    }

    private static void recordFirstException() {
        CHECK.sentence("Promise 13", "If several apply, the one that the throws clause names first is thrown.");
        Replay x = threeByThree();
        CHECK.refuses("no car, -1", x, Check.INDEX, r -> r.record(3, 0, -1));
        CHECK.refuses("no gate, 10001", x, Check.INDEX, r -> r.record(0, 3, 10001));
        CHECK.refuses("no car, no gate, 10001", x, Check.INDEX, r -> r.record(-1, -1, 10001));
    }

    private static void appealNoSuchCarOrGate() {
        CHECK.sentence("Promise 14", "Throws IndexOutOfBoundsException if there is no such car or gate");
        CHECK.refuses("appeal(0, 0) without cars and gates", new Replay(), Check.INDEX, r -> r.appeal(0, 0));
        CHECK.refuses("appeal(0, 0) without gates", Setup.withCars(1, 0), Check.INDEX, r -> r.appeal(0, 0));
        Replay noCar = Setup.withEntries(1, 1);
        noCar.addGate(0, 0);
        CHECK.refuses("appeal(0, 0) without cars", noCar, Check.INDEX, r -> r.appeal(0, 0));
        Replay x = threeByThree();
        for (int number : Setup.besideNumbers(3)) {
            CHECK.refuses("appeal(" + number + ", 0)", x, Check.INDEX, r -> r.appeal(number, 0));
            CHECK.refuses("appeal(0, " + number + ")", x, Check.INDEX, r -> r.appeal(0, number));
        }
        CHECK.yes("the first of both", x.appeal(0, 0));
        CHECK.yes("the last of both", x.appeal(2, 2));
    }

    private static void appealNothingRecorded() {
        CHECK.sentence("Promise 14", "Throws IllegalStateException if the van has recorded nothing there");
        Replay x = Setup.straight(2, 0);
        x.enter();
        CHECK.refuses("neither passed nor recorded", x, Check.STATE, r -> r.appeal(0, 0));
        x.drive(0, 1, 0);
        CHECK.refuses("passed, but not recorded", x, Check.STATE, r -> r.appeal(0, 0));
        x.record(0, 0, 5);
        CHECK.refuses("recorded at another gate", x, Check.STATE, r -> r.appeal(0, 1));
        CHECK.refuses("recorded for another car", x, Check.STATE, r -> r.appeal(1, 0));
        CHECK.yes("recorded", x.appeal(0, 0));
        CHECK.refuses("dropped", x, Check.STATE, r -> r.appeal(0, 0));
        x.record(0, 0, 0);
        CHECK.yes("the minute 0 is recorded", x.appeal(0, 0));
    }

    private static void appealByTheMinute() {
        CHECK.sentence("Terms", "An appeal for a car and a gate drops what the van recorded, if that is not the"
                + " time by the track; otherwise it is lost, and costs 10 points.");
        Replay x = Setup.straight(1, 0);
        x.drive(0, 1, 0);
        x.record(0, 0, 0);
        CHECK.yes("a minute ahead of the track's", x.appeal(0, 0));
        CHECK.same("dropped", 1, x.time(0, 0));
        x.record(0, 0, 2);
        CHECK.yes("a minute behind the track's", x.appeal(0, 0));
        CHECK.same("dropped", 1, x.time(0, 0));
        CHECK.same("it costs nothing", 0, x.points(0));
        x.record(0, 0, 1);
        CHECK.yes("the minute of the track", !x.appeal(0, 0));
        CHECK.same("it costs 10 points", 10, x.points(0));
        CHECK.same("what is recorded stays", 1, x.time(0, 0));
        Replay y = new Replay();
        y.addEntry(1, 2);
        y.addEntry(1, 2);
        y.addGate(1, 0);
        y.enter();
        y.record(0, 0, 0);
        CHECK.yes("the minute 0 of the track", !y.appeal(0, 0));
        CHECK.same("10 points and 2 minutes early", 14, y.points(0));
    }

    private static void appealNotPassed() {
        CHECK.sentence("Promise 14", "Returns whether it is not lost.");
        Replay x = Setup.straight(1, 0);
        x.record(0, 0, 0);
        CHECK.yes("the minute 0 is not the track's, which did not pass", x.appeal(0, 0));
        CHECK.same("not passed again", NONE, x.time(0, 0));
        x.record(0, 0, 10000);
        CHECK.yes("nor is the minute 10000", x.appeal(0, 0));
        CHECK.same("60 points and no more", 60, x.points(0));
    }

    private static void appealLostAgain() {
        CHECK.sentence("Promise 14", "Returns whether it is not lost.");
        Replay x = Setup.straight(2, 0);
        x.enter();
        x.drive(0, 2, 0);
        x.record(0, 0, 1);
        x.record(0, 1, 2);
        for (int lost = 1; lost <= 100; lost++) {
            CHECK.yes("lost", !x.appeal(0, lost % 2));
            CHECK.same("10 points for each", 10 * lost, x.points(0));
        }
        CHECK.same("the other car lost none", 120, x.points(1));
    }

    private static void appealFirstException() {
        CHECK.sentence("Promise 14", "If several apply, the one that the throws clause names first is thrown.");
        Replay x = Setup.straight(1, 0);
        CHECK.refuses("no car, nothing recorded", x, Check.INDEX, r -> r.appeal(1, 0));
        CHECK.refuses("no gate, nothing recorded", x, Check.INDEX, r -> r.appeal(0, 1));
    }

    private static void byTrackNoSuchCarOrGate() {
        CHECK.sentence("Promise 21", "Throws IndexOutOfBoundsException if there is no such car or gate");
        CHECK.refuses("byTrack(0, 0) without cars and gates", new Replay(), Check.INDEX, r -> r.byTrack(0, 0));
        CHECK.refuses("byTrack(0, 0) without gates", Setup.withCars(1, 0), Check.INDEX, r -> r.byTrack(0, 0));
        Replay noCar = Setup.withEntries(1, 1);
        noCar.addGate(0, 0);
        CHECK.refuses("byTrack(0, 0) without cars", noCar, Check.INDEX, r -> r.byTrack(0, 0));
        Replay x = threeByThree();
        x.drive(0, 3, 0);
        x.drive(2, 3, 0);
        for (int number : Setup.besideNumbers(3)) {
            CHECK.refuses("byTrack(" + number + ", 0)", x, Check.INDEX, r -> r.byTrack(number, 0));
            CHECK.refuses("byTrack(0, " + number + ")", x, Check.INDEX, r -> r.byTrack(0, number));
        }
        CHECK.same("the first car, the last gate", 3, x.byTrack(0, 2));
        CHECK.same("the last car, the first gate", 1, x.byTrack(2, 0));
    }

    private static void byMinutesNoSuchCarOrGate() {
        CHECK.sentence("Promise 22", "Throws IndexOutOfBoundsException if there is no such car or gate");
        CHECK.refuses("byMinutes(0, 0) without cars and gates", new Replay(), Check.INDEX, r -> r.byMinutes(0, 0));
        CHECK.refuses("byMinutes(0, 0) without gates", Setup.withCars(1, 0), Check.INDEX, r -> r.byMinutes(0, 0));
        Replay noCar = Setup.withEntries(1, 1);
        noCar.addGate(0, 0);
        CHECK.refuses("byMinutes(0, 0) without cars", noCar, Check.INDEX, r -> r.byMinutes(0, 0));
        Replay x = threeByThree();
        x.drive(0, 3, 0);
        x.drive(2, 3, 0);
        for (int number : Setup.besideNumbers(3)) {
            CHECK.refuses("byMinutes(" + number + ", 0)", x, Check.INDEX, r -> r.byMinutes(number, 0));
            CHECK.refuses("byMinutes(0, " + number + ")", x, Check.INDEX, r -> r.byMinutes(0, number));
        }
        CHECK.same("the first car, the last gate", 3, x.byMinutes(0, 2));
        CHECK.same("the last car, the first gate", 1, x.byMinutes(2, 0));
    }

    private static void passAtTheFirstMinute() {
        CHECK.sentence("Terms", "By its track a car passes the gate 0 in the first minute in which it is in its"
                + " cell");
        Replay x = new Replay();
        x.setStart(34);
        x.addEntry(1, 2);
        x.addEntry(1, 2);
        x.addGate(1, 0);
        x.enter();
        CHECK.passes(x, 0, 0);
        x.drive(0, 0, 0);
        CHECK.passes(x, 0, 0);
        x.stand(0, 1);
        CHECK.passes(x, 0, 0);
        x.drive(0, 1, 2);
        x.drive(0, 1, 2);
        CHECK.passes(x, 0, 0);
        x.enter();
        x.drive(1, 1, 2);
        CHECK.passes(x, 1, 0);
        x.enter();
        x.drive(2, 0, 3);
        x.drive(2, 2, 0);
        CHECK.passes(x, 2, 0);
    }

    private static void passAtTheLastMinute() {
        CHECK.sentence("Promise 21", "Returns the minute; NONE if it did not pass it.");
        Replay x = new Replay();
        x.addEntry(15, 1);
        x.addGate(0, 0);
        x.addEntry(15, 0);
        x.addGate(1, 0);
        x.enter();
        x.drive(0, 14, 0);
        CHECK.passes(x, 0, NONE, NONE);
        x.stand(0, 100);
        CHECK.passes(x, 0, NONE, NONE);
        x.drive(0, 1, 1);
        CHECK.passes(x, 0, 115, NONE);
        x.enter();
        for (int piece = 0; piece < 58; piece++) {
            x.stand(1, 100);
        }
        x.drive(1, 15, 1);
        CHECK.passes(x, 1, 5815, NONE);
        x.drive(1, 15, 0);
        CHECK.passes(x, 1, 5815, 5830);
    }

    /** A gate at the end of a stretch, and one that lies a cell beyond what the car drives, for each heading. */
    private static void passOnAStretch() {
        CHECK.sentence("Terms", "it does not pass a gate if there is no such minute so far");
        for (int heading = 0; heading < 4; heading++) {
            Replay x = new Replay();
            x.setStart(Setup.cell(8, 8));
            x.addEntry(1, 2);
            x.addEntry(1, (heading + 2) % 4);
            x.addEntry(1, 0);
            x.addGate(2, 0);
            x.addEntry(3, 0);
            x.addGate(3, 0);
            x.addEntry(1, 0);
            x.addGate(4, 0);
            x.enter();
            x.drive(0, 0, heading);
            x.drive(0, 4, 0);
            CHECK.passes(x, 0, 1, 4, NONE);
            x.drive(0, 1, 0);
            CHECK.passes(x, 0, 1, 4, 5);
            x.enter();
            // It drives away from the gates, which lie behind it.
            x.stand(1, 20);
            x.drive(1, 0, (heading + 2) % 4);
            x.drive(1, 7, 0);
            CHECK.passes(x, 1, NONE, NONE, NONE);
            x.enter();
            x.drive(2, 0, (heading + 1) % 4);
            x.drive(2, 5, 0);
            CHECK.passes(x, 2, NONE, NONE, NONE);
        }
    }

    private static void passFirstOfSeveral() {
        CHECK.sentence("Terms", "By its track a car passes the gate 0 in the first minute in which it is in its"
                + " cell");
        Replay x = new Replay();
        x.addEntry(3, 0);
        x.addGate(0, 0);
        x.enter();
        x.drive(0, 5, 2);
        CHECK.passes(x, 0, 3);
        x.drive(0, 2, 0);
        CHECK.passes(x, 0, 3);
        x.stand(0, 4);
        x.drive(0, 3, 2);
        x.drive(0, 5, 2);
        CHECK.passes(x, 0, 3);
    }

    private static void passWhileStanding() {
        CHECK.sentence("Terms", "standing takes the minutes that are told");
        Replay x = new Replay();
        x.addEntry(3, 2);
        x.addEntry(1, 2);
        x.addEntry(1, 0);
        x.addGate(0, 0);
        x.addGate(2, 0);
        x.enter();
        x.stand(0, 9);
        CHECK.passes(x, 0, NONE, NONE);
        x.drive(0, 3, 0);
        x.stand(0, 9);
        CHECK.passes(x, 0, 12, 12);
        x.stand(0, 9);
        CHECK.passes(x, 0, 12, 12);
    }

    private static void passNotAheadOfTheLastGate() {
        CHECK.sentence("Terms", "each other gate in the first minute in which it is in its cell, and which is not"
                + " ahead of the minute in which it passed the last gate ahead of this one that it passed");
        // The gates 0 and 1 lie in the same cell, so the same minute is not ahead of itself.
        Replay x = new Replay();
        x.addEntry(4, 2);
        x.addEntry(1, 2);
        x.addEntry(1, 2);
        x.addEntry(1, 0);
        x.addGate(0, 0);
        x.addGate(2, 0);
        x.addGate(3, 0);
        x.enter();
        x.drive(0, 4, 2);
        // It was in the cell of the gate 2 one minute ahead of the gate 1.
        CHECK.passes(x, 0, 4, 4, NONE);
        x.stand(0, 5);
        CHECK.passes(x, 0, 4, 4, NONE);
        x.drive(0, 1, 0);
        CHECK.passes(x, 0, 4, 4, 10);
        x.drive(0, 1, 2);
        x.drive(0, 2, 2);
        CHECK.passes(x, 0, 4, 4, 10);
    }

    private static void passBehindMissedGates() {
        CHECK.sentence("Terms", "which is not ahead of the minute in which it passed the last gate ahead of this"
                + " one that it passed");
        Replay x = new Replay();
        x.addEntry(4, 1);
        x.addEntry(1, 2);
        x.addEntry(1, 3);
        x.addEntry(2, 0);
        x.addGate(0, 0);
        x.addGate(1, 0);
        x.addGate(3, 0);
        x.enter();
        x.drive(0, 3, 0);
        CHECK.passes(x, 0, NONE, NONE, 2);
        x.drive(0, 1, 2);
        // The gate 1 was missed, so it is the gate 0 that holds the gate 2 back.
        CHECK.passes(x, 0, 4, NONE, NONE);
        x.drive(0, 1, 0);
        CHECK.passes(x, 0, 4, NONE, NONE);
        x.drive(0, 1, 0);
        CHECK.passes(x, 0, 4, NONE, 6);
    }

    private static void passWithNoGateAhead() {
        CHECK.sentence("Terms", "the last gate ahead of this one that it passed, if there is one");
        Replay x = Setup.straight(10, 0);
        x.drive(0, 0, 1);
        x.drive(0, 1, 3);
        x.drive(0, 10, 3);
        CHECK.passes(x, 0, NONE, NONE, NONE, NONE, NONE, NONE, NONE, NONE, NONE, NONE);
        x.drive(0, 1, 3);
        CHECK.passes(x, 0, NONE, NONE, NONE, NONE, NONE, NONE, NONE, NONE, NONE, 12);
        x.drive(0, 1, 0);
        CHECK.passes(x, 0, NONE, NONE, NONE, NONE, NONE, NONE, NONE, NONE, 13, NONE);
    }

    private static void passIsTakenAway() {
        CHECK.sentence("Terms", "it does not pass a gate if there is no such minute so far");
        Replay x = new Replay();
        x.addEntry(2, 2);
        x.addEntry(1, 0);
        x.addGate(0, 0);
        x.addGate(1, 0);
        x.enter();
        x.drive(0, 1, 0);
        CHECK.passes(x, 0, NONE, 1);
        x.drive(0, 1, 2);
        CHECK.passes(x, 0, 2, NONE);
        x.drive(0, 1, 0);
        CHECK.passes(x, 0, 2, 3);
        CHECK.looksChangeNothing(x);
    }

    private static void passAllTen() {
        CHECK.sentence("Terms", "Gates are numbered from 0 on, at most 10");
        Replay x = Setup.straight(10, 0);
        x.drive(0, 9, 0);
        CHECK.passes(x, 0, 1, 2, 3, 4, 5, 6, 7, 8, 9, NONE);
        x.drive(0, 1, 0);
        CHECK.passes(x, 0, 1, 2, 3, 4, 5, 6, 7, 8, 9, 10);
        x.enter();
        for (int piece = 0; piece < 10; piece++) {
            x.drive(1, 1, 0);
            x.stand(1, 1);
        }
        CHECK.passes(x, 1, 1, 3, 5, 7, 9, 11, 13, 15, 17, 19);
    }

    private static void timeNoSuchCarOrGate() {
        CHECK.sentence("Promise 23", "Throws IndexOutOfBoundsException if there is no such car or gate");
        CHECK.refuses("time(0, 0) without cars and gates", new Replay(), Check.INDEX, r -> r.time(0, 0));
        CHECK.refuses("time(0, 0) without gates", Setup.withCars(1, 0), Check.INDEX, r -> r.time(0, 0));
        Replay noCar = Setup.withEntries(1, 1);
        noCar.addGate(0, 0);
        CHECK.refuses("time(0, 0) without cars", noCar, Check.INDEX, r -> r.time(0, 0));
        Replay x = threeByThree();
        for (int number : Setup.besideNumbers(3)) {
            CHECK.refuses("time(" + number + ", 0)", x, Check.INDEX, r -> r.time(number, 0));
            CHECK.refuses("time(0, " + number + ")", x, Check.INDEX, r -> r.time(0, number));
        }
        CHECK.same("the first of both", 5, x.time(0, 0));
        CHECK.same("the last of both", 7, x.time(2, 2));
    }

    private static void timeReturns() {
        CHECK.sentence("Promise 23", "Returns the minute; NONE if it did not pass it.");
        Replay x = Setup.straight(1, 0);
        CHECK.same("not passed", NONE, x.time(0, 0));
        x.drive(0, 1, 0);
        CHECK.same("by the track", 1, x.time(0, 0));
        x.record(0, 0, 0);
        CHECK.same("the least that is recorded", 0, x.time(0, 0));
        x.record(0, 0, 10000);
        CHECK.same("the greatest that is recorded", 10000, x.time(0, 0));
        CHECK.passes(x, 0, 1);
        x.appeal(0, 0);
        CHECK.same("by the track again", 1, x.time(0, 0));
    }

    private static void pointsNoSuchCar() {
        CHECK.sentence("Promise 24", "Throws IndexOutOfBoundsException if there is no such car");
        CHECK.refuses("points(0) without cars", new Replay(), Check.INDEX, r -> r.points(0));
        Replay x = threeByThree();
        x.drive(0, 1, 0);
        for (int number : Setup.besideNumbers(3)) {
            CHECK.refuses("points(" + number + ")", x, Check.INDEX, r -> r.points(number));
        }
        CHECK.same("the first", 4 + 120, x.points(0));
        CHECK.same("the last", 120 + 4, x.points(2));
        CHECK.same("the one between", 180, x.points(1));
    }

    private static void pointsNone() {
        CHECK.sentence("Promise 24", "Returns the points.");
        Replay x = Setup.withCars(1, 0);
        CHECK.same("without gates", 0, x.points(0));
        x.addEntry(1, 0);
        CHECK.same("without gates, with an entry", 0, x.points(0));
        x.addGate(0, 0);
        CHECK.same("with a gate", 60, x.points(0));
        x.drive(0, 1, 0);
        CHECK.same("at the due minute", 0, x.points(0));
        x.cut(0);
        CHECK.same("if no gate counts", 0, x.points(0));
    }

    private static void pointsEarly() {
        CHECK.sentence("Terms", "2 for each minute that its time is ahead of the due one, or 1 for each minute"
                + " behind it, at most 60");
        Replay x = Setup.straight(1, 100);
        int[] early = {0, 1, 2, 28, 29, 30, 31, 100};
        int[] due = {0, 2, 4, 56, 58, 60, 60, 60};
        for (int number = 0; number < early.length; number++) {
            x.record(0, 0, 101 - early[number]);
            CHECK.same(early[number] + " minutes early by the van", due[number], x.points(0));
        }
        for (int allowed = 28; allowed <= 31; allowed++) {
            Replay y = Setup.straight(1, allowed);
            y.drive(0, 1, 0);
            CHECK.same(allowed + " minutes early by the track", Math.min(60, 2 * allowed), y.points(0));
        }
    }

    private static void pointsLate() {
        CHECK.sentence("Terms", "2 for each minute that its time is ahead of the due one, or 1 for each minute"
                + " behind it, at most 60");
        Replay x = Setup.straight(1, 0);
        int[] late = {0, 1, 2, 58, 59, 60, 61, 9999};
        int[] due = {0, 1, 2, 58, 59, 60, 60, 60};
        for (int number = 0; number < late.length; number++) {
            x.record(0, 0, 1 + late[number]);
            CHECK.same(late[number] + " minutes late by the van", due[number], x.points(0));
        }
        for (int minutes = 58; minutes <= 62; minutes++) {
            Replay y = Setup.straight(1, 0);
            y.stand(0, minutes);
            y.drive(0, 1, 0);
            CHECK.same(minutes + " minutes late by the track", Math.min(60, minutes), y.points(0));
        }
    }

    private static void pointsAbsent() {
        CHECK.sentence("Terms", "60 for one that it did not pass");
        // The least due minute: what is not passed is not a minute or two early.
        Replay x = Setup.straight(1, 0);
        CHECK.same("due at 1, not passed", 60, x.points(0));
        x.record(0, 0, 0);
        CHECK.same("due at 1, a minute early", 2, x.points(0));
        x.appeal(0, 0);
        CHECK.same("due at 1, not passed again", 60, x.points(0));
    }

    private static void pointsInTheOrderOfGates() {
        CHECK.sentence("Terms", "60 for one that it did not pass");
        Replay x = new Replay();
        x.addEntry(4, 2);
        x.addEntry(1, 2);
        x.addEntry(1, 0);
        x.addGate(0, 0);
        x.addGate(1, 0);
        x.addGate(2, 0);
        x.enter();
        x.drive(0, 3, 0);
        CHECK.same("the gate 1 alone, 2 minutes early", 60 + 4 + 60, x.points(0));
        x.drive(0, 1, 2);
        CHECK.same("the gates 0 and 2 in one minute, 2 early for the latter", 60 + 4, x.points(0));
        x.drive(0, 1, 2);
        CHECK.same("the gate 1 in time, the gate 2 missed behind it", 60, x.points(0));
        x.drive(0, 1, 0);
        CHECK.same("all three in time", 0, x.points(0));
        Replay y = new Replay();
        y.addEntry(2, 1);
        y.addEntry(1, 2);
        y.addEntry(1, 3);
        y.addEntry(1, 0);
        y.addGate(0, 0);
        y.addGate(1, 0);
        y.addGate(3, 0);
        y.enter();
        y.drive(0, 2, 0);
        CHECK.same("the gate 0 alone, as it saw the gate 2 ahead of it", 120, y.points(0));
        Replay z = new Replay();
        z.addEntry(1, 2);
        z.addEntry(1, 2);
        z.addGate(1, 0);
        z.enter();
        CHECK.same("passed at 0, 2 minutes early", 4, z.points(0));
        z.stand(0, 2);
        CHECK.same("passed at 0 all the same", 4, z.points(0));
    }

    private static void pointsAtMostSixtyAGate() {
        CHECK.sentence("Terms", "Points of a car are, over all gates that count");
        Replay x = Setup.straight(10, 100);
        CHECK.same("ten are missed", 600, x.points(0));
        for (int gate = 0; gate < 10; gate++) {
            x.record(0, gate, gate % 2 == 0 ? 0 : 10000);
        }
        CHECK.same("ten are far too early or too late", 600, x.points(0));
        x.record(0, 9, x.due(9));
        CHECK.same("one is in time", 540, x.points(0));
        x.cut(9);
        CHECK.same("which does not count", 540, x.points(0));
        x.cut(8);
        CHECK.same("nor does the one ahead", 480, x.points(0));
    }

    private static void pointsOfLostAppeals() {
        CHECK.sentence("Terms", "and those of lost appeals");
        Replay x = Setup.straight(1, 0);
        x.stand(0, 100);
        x.drive(0, 1, 0);
        x.record(0, 0, 101);
        x.appeal(0, 0);
        CHECK.same("beside the 60 of the gate", 70, x.points(0));
        x.cut(0);
        CHECK.same("though the gate does not count", 10, x.points(0));
        x.appeal(0, 0);
        CHECK.same("lost at a gate that does not count", 20, x.points(0));
        x.record(0, 0, 5);
        x.appeal(0, 0);
        CHECK.same("one that is not lost gives none back", 20, x.points(0));
    }

    private static void tableNoSuchPlace() {
        CHECK.sentence("Promise 25", "place: from 0; Throws IndexOutOfBoundsException if there are not so many cars");
        CHECK.refuses("table(0) without cars", new Replay(), Check.INDEX, r -> r.table(0));
        Replay one = Setup.withCars(1, 0);
        CHECK.same("table(0) of one", 0, one.table(0));
        CHECK.refuses("table(1) of one", one, Check.INDEX, r -> r.table(1));
        Replay x = Setup.withCars(3, 0);
        for (int place : Setup.besideNumbers(3)) {
            CHECK.refuses("table(" + place + ") of three", x, Check.INDEX, r -> r.table(place));
        }
        Replay full = Setup.withCars(8, 0);
        CHECK.same("table(7) of eight", 7, full.table(7));
        CHECK.refuses("table(8) of eight", full, Check.INDEX, r -> r.table(8));
    }

    private static void tableOfEqualPoints() {
        CHECK.sentence("Promise 25", "fewer points first, of several the lower number");
        Replay x = Setup.straight(1, 100);
        for (int car = 1; car < 8; car++) {
            x.enter();
        }
        CHECK.table(x, 0, 1, 2, 3, 4, 5, 6, 7);
        // Two minutes late cost as much as one early.
        x.record(5, 0, 103);
        x.record(2, 0, 100);
        x.record(7, 0, 103);
        CHECK.table(x, 2, 5, 7, 0, 1, 3, 4, 6);
        x.record(7, 0, 102);
        CHECK.table(x, 7, 2, 5, 0, 1, 3, 4, 6);
        x.record(0, 0, 104);
        CHECK.table(x, 7, 2, 5, 0, 1, 3, 4, 6);
        x.record(0, 0, 10000);
        CHECK.table(x, 7, 2, 5, 0, 1, 3, 4, 6);
        x.cut(0);
        CHECK.table(x, 0, 1, 2, 3, 4, 5, 6, 7);
    }

    private static void tableInAllOrders() {
        CHECK.sentence("Promise 25", "fewer points first, of several the lower number");
        Replay x = Setup.straight(1, 0);
        for (int car = 1; car < 8; car++) {
            x.enter();
        }
        for (int car = 0; car < 8; car++) {
            x.record(car, 0, 1 + 8 - car);
        }
        CHECK.table(x, 7, 6, 5, 4, 3, 2, 1, 0);
        for (int car = 0; car < 8; car++) {
            x.record(car, 0, 1 + (car * 3) % 8);
        }
        CHECK.table(x, 0, 3, 6, 1, 4, 7, 2, 5);
        CHECK.looksChangeNothing(x);
    }

    private static void noneIsNoMinute() {
        CHECK.sentence("Terms", "NONE = -1: There is none.");
        CHECK.same("NONE", -1, OriginRally.NONE);
        Replay x = Setup.straight(1, 0);
        CHECK.refuses("NONE is not recorded", x, Check.ARGUMENT, r -> r.record(0, 0, NONE));
        CHECK.refuses("a car is nowhere at NONE", x, Check.ARGUMENT, r -> r.cellAt(0, NONE));
        CHECK.refuses("no car has the number NONE", x, Check.INDEX, r -> r.time(NONE, 0));
        CHECK.refuses("no gate has the number NONE", x, Check.INDEX, r -> r.time(0, NONE));
    }

    /** Cars that drove, stood, broke down and were mended, parts everywhere, recorded times, lost appeals and a cut. */
    private static Replay muchUsed() {
        Replay x = Setup.straight(4, 1);
        x.enter();
        x.enter();
        for (int part = 0; part < 6; part++) {
            x.bring(part % 4, part % 4 - 1);
        }
        x.breakDown(0, 1);
        x.hand(3, 1);
        x.mend(0);
        x.drive(0, 3, 1);
        x.breakDown(0, 2);
        x.stand(1, 2);
        x.drive(1, 1, 2);
        x.record(0, 0, 30);
        x.record(1, 0, 3);
        x.appeal(1, 0);
        x.record(2, 3, 9);
        x.cut(3);
        return x;
    }

    private static void whatIsAskedChangesNothing() {
        CHECK.sentence("Terms", "places, times, points, parts and the table are asked, which changes nothing");
        CHECK.looksChangeNothing(new Replay());
        CHECK.looksChangeNothing(Setup.withCars(8, 255));
        CHECK.looksChangeNothing(Setup.straight(10, 100));
        CHECK.looksChangeNothing(muchUsed());
    }

    private static void refusedQuestionsChangeNothing() {
        CHECK.sentence("Terms", "A call that throws an exception changes nothing.");
        Replay x = muchUsed();
        CHECK.refuses("cellOf(4)", x, Check.INDEX, r -> r.cellOf(4));
        CHECK.refuses("due(4)", x, Check.INDEX, r -> r.due(4));
        CHECK.refuses("followed(3)", x, Check.INDEX, r -> r.followed(3));
        CHECK.refuses("cellAt(3, 0)", x, Check.INDEX, r -> r.cellAt(3, 0));
        CHECK.refuses("cellAt(2, 1)", x, Check.ARGUMENT, r -> r.cellAt(2, 1));
        CHECK.refuses("clock(3)", x, Check.INDEX, r -> r.clock(3));
        CHECK.refuses("byTrack(3, 0)", x, Check.INDEX, r -> r.byTrack(3, 0));
        CHECK.refuses("byMinutes(0, 4)", x, Check.INDEX, r -> r.byMinutes(0, 4));
        CHECK.refuses("time(3, 4)", x, Check.INDEX, r -> r.time(3, 4));
        CHECK.refuses("points(3)", x, Check.INDEX, r -> r.points(3));
        CHECK.refuses("table(3)", x, Check.INDEX, r -> r.table(3));
        CHECK.refuses("where(6)", x, Check.INDEX, r -> r.where(6));
        CHECK.refuses("lent(3)", x, Check.INDEX, r -> r.lent(3));
        CHECK.refuses("isBroken(3)", x, Check.INDEX, r -> r.isBroken(3));
    }
}
