/** Rallies to begin a test with, and the numbers that lie beside a range. */
final class Setup {
    private Setup() {
    }

    static int cell(int x, int y) {
        return 16 * x + y;
    }

    static Replay withCars(int cars, int start) {
        Replay x = new Replay();
        x.setStart(start);
        for (int car = 0; car < cars; car++) {
            x.enter();
        }
        return x;
    }

    /** A book on and back by so many cells each; so it goes on as long as it is let. */
    static Replay withEntries(int entries, int cells) {
        Replay x = new Replay();
        for (int entry = 0; entry < entries; entry++) {
            x.addEntry(cells, 2);
        }
        return x;
    }

    /** A book that goes up by one cell an entry, from the cell 0 on, with a gate at each, and one car. */
    static Replay straight(int gates, int allowed) {
        Replay x = new Replay();
        for (int gate = 0; gate < gates; gate++) {
            x.addEntry(1, 0);
            x.addGate(gate, allowed);
        }
        x.enter();
        return x;
    }

    /** So many pieces of one cell, on and back. */
    static void fill(Replay x, int car, int pieces) {
        for (int piece = 0; piece < pieces; piece++) {
            x.drive(car, 1, 2);
        }
    }

    /** The nearest numbers that a range does not hold, some farther ones, and the farthest. */
    static int[] beside(int least, int most) {
        return new int[] {least - 1, most + 1, least - 2, most + 2, least - 256, most + 256, most + 65536,
            Integer.MIN_VALUE, Integer.MIN_VALUE + 1, Integer.MAX_VALUE};
    }

    /** The same for the number of a car, a gate, a part or a place, if there are so many. */
    static int[] besideNumbers(int count) {
        return beside(0, count - 1);
    }

    /** The same for the places to which a part goes: the tent, and so many cars. */
    static int[] besidePlaces(int cars) {
        return beside(OriginRally.TENT, cars - 1);
    }
}
