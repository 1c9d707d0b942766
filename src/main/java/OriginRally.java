import java.util.NoSuchElementException;

/** A rally on one course: the book, the cars and their tracks, the van, the parts and the table. */
public final class OriginRally {
    public static final int NONE = -1;
    public static final int TENT = -1, USED_UP = -2;

    private static final int LAST_CELL = 255;
    private static final int LAST_COORDINATE = 15;
    private static final int MOST_CELLS = 15;
    private static final int LAST_TURN = 3;
    private static final int LAST_HEADING = 3;
    private static final int LAST_KIND = 3;
    private static final int MOST_ENTRIES = 30;
    private static final int MOST_GATES = 10;
    private static final int MOST_ALLOWED = 100;
    private static final int MOST_CARS = 8;
    private static final int MOST_PIECES = 60;
    private static final int MOST_STANDING = 100;
    private static final int MOST_PARTS = 40;
    private static final int LAST_MINUTE = 10000;
    private static final int MENDING_MINUTES = 3;
    private static final int MOST_GATE_POINTS = 60;
    private static final int POINTS_EARLY = 2;
    private static final int POINTS_LOST_APPEAL = 10;

    /** How x and y change with a cell driven, by the heading. */
    private static final int[] STEP_X = {0, 1, 0, -1};
    private static final int[] STEP_Y = {1, 0, -1, 0};

    private int start;
    private final Way book;
    private final Gate[] gateRow;
    private int gateCount;
    private int counting;
    private final Car[] carRow;
    private int carCount;
    private final Part[] partRow;
    private int partCount;
    /** Points of all cars, filled anew by each call of the table. */
    private final int[] totals;

    public OriginRally() {
        start = 0;
        book = new Way(MOST_ENTRIES, 0);
        gateRow = new Gate[MOST_GATES];
        gateCount = 0;
        counting = MOST_GATES;
        carRow = new Car[MOST_CARS];
        carCount = 0;
        partRow = new Part[MOST_PARTS];
        partCount = 0;
        totals = new int[MOST_CARS];
    }

    // ---- the book

    public int setStart(int cell) throws IllegalArgumentException, IllegalStateException {
        checkArgument(isWithin(cell, 0, LAST_CELL));
        checkState(book.size == 0 && carCount == 0);
        int before = start;
        start = cell;
        book.beginIn(cell);
        return before;
    }

    public int addEntry(int cells, int turn) throws IllegalArgumentException, IllegalStateException {
        checkArgument(isWithin(cells, 1, MOST_CELLS) && isWithin(turn, 0, LAST_TURN));
        checkState(!book.isFull() && book.staysOnGround(cells));
        book.goOn(cells, turn);
        return book.cell;
    }

    public int addGate(int entry, int allowed)
            throws IndexOutOfBoundsException, IllegalArgumentException, IllegalStateException {
        Piece stretch = entryAt(entry);
        checkArgument(isWithin(allowed, 0, MOST_ALLOWED) && entry > lastGateEntry());
        checkState(gateCount < MOST_GATES);
        int number = gateCount;
        gateRow[number] = new Gate(entry, stretch.lastCell(), stretch.end() + allowed);
        gateCount++;
        return number;
    }

    public int cut(int gates) throws IllegalArgumentException {
        checkArgument(isWithin(gates, 0, MOST_GATES));
        int before = counting;
        counting = gates;
        return before;
    }

    // ---- cars

    public int enter() throws IllegalStateException {
        checkState(carCount < MOST_CARS);
        int number = carCount;
        carRow[number] = new Car(start);
        carCount++;
        return number;
    }

    public int drive(int car, int cells, int turn)
            throws IndexOutOfBoundsException, IllegalArgumentException, IllegalStateException {
        Car driven = carAt(car);
        checkArgument(isWithin(cells, 0, MOST_CELLS) && isWithin(turn, 0, LAST_TURN));
        checkState(!driven.isDown() && !driven.track.isFull() && driven.track.staysOnGround(cells));
        driven.track.goOn(cells, turn);
        return driven.track.minute;
    }

    public int stand(int car, int minutes)
            throws IndexOutOfBoundsException, IllegalArgumentException, IllegalStateException {
        Car standing = carAt(car);
        checkArgument(isWithin(minutes, 1, MOST_STANDING));
        checkState(!standing.track.isFull());
        standing.track.stay(minutes);
        return standing.track.minute;
    }

    public void breakDown(int car, int kind) throws IndexOutOfBoundsException, IllegalStateException {
        Car down = carAt(car);
        checkIndex(isWithin(kind, 0, LAST_KIND));
        checkState(!down.isDown());
        down.downBy = kind;
    }

    public int mend(int car) throws IndexOutOfBoundsException, IllegalStateException, NoSuchElementException {
        Car mended = carAt(car);
        checkState(mended.isDown() && !mended.track.isFull());
        int number = firstPartIn(car, mended.downBy);
        if (number == NONE) {
            throw new NoSuchElementException("no part of the kind in the car");
        }
        partAt(number).useUp(car);
        mended.track.stay(MENDING_MINUTES * (mended.downBy + 1));
        mended.downBy = NONE;
        return number;
    }

    // ---- parts

    public int bring(int kind, int owner) throws IndexOutOfBoundsException, IllegalStateException {
        checkIndex(isWithin(kind, 0, LAST_KIND) && isPlace(owner));
        checkState(partCount < MOST_PARTS);
        int number = partCount;
        partRow[number] = new Part(kind, owner);
        partCount++;
        return number;
    }

    public int hand(int part, int to) throws IndexOutOfBoundsException, IllegalStateException {
        Part handed = partAt(part);
        checkIndex(isPlace(to));
        int from = handed.place;
        checkState(from != USED_UP && from != to && cellOfPlace(from) == cellOfPlace(to));
        handed.place = to;
        return from;
    }

    // ---- the van

    public int record(int car, int gate, int minute) throws IndexOutOfBoundsException, IllegalArgumentException {
        Car timed = carAt(car);
        checkGate(gate);
        checkArgument(isWithin(minute, 0, LAST_MINUTE));
        int before = timed.timeAt(gate, passMinute(timed, gate));
        timed.setRecord(gate, minute);
        return before;
    }

    public boolean appeal(int car, int gate) throws IndexOutOfBoundsException, IllegalStateException {
        Car appealing = carAt(car);
        checkGate(gate);
        int recorded = appealing.recordAt(gate);
        checkState(recorded != NONE);
        if (recorded == passMinute(appealing, gate)) {
            appealing.lostAppeals++;
            return false;
        }
        appealing.setRecord(gate, NONE);
        return true;
    }

    // ---- what is asked

    public int gates() {
        return gateCount;
    }

    public int cellOf(int gate) throws IndexOutOfBoundsException {
        return gateAt(gate).cell;
    }

    public int due(int gate) throws IndexOutOfBoundsException {
        return gateAt(gate).dueMinute;
    }

    public int followed(int car) throws IndexOutOfBoundsException {
        return carAt(car).track.followedOf(book);
    }

    public int cellAt(int car, int minute) throws IndexOutOfBoundsException, IllegalArgumentException {
        Way track = carAt(car).track;
        checkArgument(isWithin(minute, 0, track.minute));
        return track.cellAtMinute(minute, track.pieceAtMinute(minute, 0));
    }

    public int clock(int car) throws IndexOutOfBoundsException {
        return carAt(car).track.minute;
    }

    public int byTrack(int car, int gate) throws IndexOutOfBoundsException {
        Car asked = carAt(car);
        checkGate(gate);
        return passMinute(asked, gate);
    }

    public int byMinutes(int car, int gate) throws IndexOutOfBoundsException {
        Way track = carAt(car).track;
        checkGate(gate);
        int from = 0;
        int passed = NONE;
        for (int ahead = 0; ahead <= gate; ahead++) {
            passed = track.firstOfAllMinutes(gateAt(ahead).cell, from);
            from = Math.max(from, passed);
        }
        return passed;
    }

    public int time(int car, int gate) throws IndexOutOfBoundsException {
        Car asked = carAt(car);
        checkGate(gate);
        return asked.timeAt(gate, passMinute(asked, gate));
    }

    public int points(int car) throws IndexOutOfBoundsException {
        return pointsOf(carAt(car));
    }

    public int table(int place) throws IndexOutOfBoundsException {
        checkIndex(isWithin(place, 0, carCount - 1));
        for (int car = 0; car < carCount; car++) {
            totals[car] = pointsOf(carAt(car));
        }
        int found = 0;
        while (found < carCount - 1 && placeOf(found) != place) {
            found++;
        }
        return found;
    }

    public int where(int part) throws IndexOutOfBoundsException {
        return partAt(part).place;
    }

    public int lent(int car) throws IndexOutOfBoundsException {
        checkIndex(isCar(car));
        int count = 0;
        for (int number = 0; number < partCount; number++) {
            if (partAt(number).isLentBy(car)) {
                count++;
            }
        }
        return count;
    }

    public boolean isBroken(int car) throws IndexOutOfBoundsException {
        return carAt(car).isDown();
    }

    // ---- what the calls above look at

    private static boolean isWithin(int number, int least, int most) {
        return number >= least && number <= most;
    }

    private static void checkIndex(boolean isThere) {
        if (!isThere) {
            throw new IndexOutOfBoundsException("no such number");
        }
    }

    private static void checkArgument(boolean isInRange) {
        if (!isInRange) {
            throw new IllegalArgumentException("out of range");
        }
    }

    private static void checkState(boolean isPossible) {
        if (!isPossible) {
            throw new IllegalStateException("not possible now");
        }
    }

    private boolean isCar(int number) {
        return isWithin(number, 0, carCount - 1);
    }

    private boolean isPlace(int number) {
        return number == TENT || isCar(number);
    }

    private void checkGate(int number) {
        checkIndex(isWithin(number, 0, gateCount - 1));
    }

    private Piece entryAt(int number) {
        Piece entry = book.pieceAt(number);
        if (entry == null) {
            throw new IndexOutOfBoundsException("no such entry");
        }
        return entry;
    }

    private Gate gateAt(int number) {
        Gate gate = isWithin(number, 0, gateCount - 1) ? gateRow[number] : null;
        if (gate == null) {
            throw new IndexOutOfBoundsException("no such gate");
        }
        return gate;
    }

    private Car carAt(int number) {
        Car car = isCar(number) ? carRow[number] : null;
        if (car == null) {
            throw new IndexOutOfBoundsException("no such car");
        }
        return car;
    }

    private Part partAt(int number) {
        Part part = isWithin(number, 0, partCount - 1) ? partRow[number] : null;
        if (part == null) {
            throw new IndexOutOfBoundsException("no such part");
        }
        return part;
    }

    private int lastGateEntry() {
        return gateCount == 0 ? NONE : gateAt(gateCount - 1).entry;
    }

    private int cellOfPlace(int place) {
        return place == TENT ? start : carAt(place).track.cell;
    }

    private int firstPartIn(int car, int kind) {
        for (int number = 0; number < partCount; number++) {
            Part part = partAt(number);
            if (part.place == car && part.kind == kind) {
                return number;
            }
        }
        return NONE;
    }

    /** A gate that was passed holds back those behind it; one that was not leaves them free. */
    private int passMinute(Car car, int gate) {
        int from = 0;
        int passed = NONE;
        for (int ahead = 0; ahead <= gate; ahead++) {
            passed = car.track.firstMinuteIn(gateAt(ahead).cell, from);
            from = Math.max(from, passed);
        }
        return passed;
    }

    private int pointsOf(Car car) {
        int sum = POINTS_LOST_APPEAL * car.lostAppeals;
        int from = 0;
        for (int number = 0; number < gateCount && number < counting; number++) {
            Gate gate = gateAt(number);
            int passed = car.track.firstMinuteIn(gate.cell, from);
            from = Math.max(from, passed);
            sum += gate.pointsFor(car.timeAt(number, passed));
        }
        return sum;
    }

    private int placeOf(int car) {
        int place = 0;
        for (int other = 0; other < carCount; other++) {
            if (totals[other] < totals[car] || totals[other] == totals[car] && other < car) {
                place++;
            }
        }
        return place;
    }

    /** One piece of a way: driven straight on with a turn at its end, or stood. */
    private static final class Piece {
        private final int begin;
        private final int minutes;
        private final int cell;
        private final int heading;
        private final int turn;
        private final boolean isDriven;

        Piece(int begin, int minutes, int cell, int heading, int turn, boolean isDriven) {
            this.begin = begin;
            this.minutes = minutes;
            this.cell = cell;
            this.heading = heading;
            this.turn = turn;
            this.isDriven = isDriven;
        }

        int end() {
            return begin + minutes;
        }

        int lastCell() {
            return cellAfter(minutes);
        }

        int cellAfter(int passed) {
            if (!isDriven) {
                return cell;
            }
            int side = heading & LAST_HEADING;
            return cell + passed * ((STEP_X[side] << 4) + STEP_Y[side]);
        }

        /** The first minute of this piece, not ahead of from, in the target's cell; NONE if there is none. */
        int firstMinuteIn(int target, int from) {
            if (!isDriven) {
                return cell == target && end() >= from ? Math.max(begin, from) : NONE;
            }
            int passed = cellsOnTo(target);
            return cellAfter(passed) == target && isWithin(passed, 0, minutes) && begin + passed >= from
                    ? begin + passed : NONE;
        }

        /** How far the target lies ahead of the cell in which this piece begins, if it is in its line. */
        private int cellsOnTo(int target) {
            int side = heading & LAST_HEADING;
            int acrossX = (target >> 4) - (cell >> 4);
            int acrossY = (target & LAST_COORDINATE) - (cell & LAST_COORDINATE);
            return acrossX * STEP_X[side] + acrossY * STEP_Y[side];
        }

        boolean isDrivenLike(Piece entry) {
            return isDriven && minutes == entry.minutes && turn == entry.turn;
        }
    }

    /** A way over the ground, piece by piece: the book is one, and so is the track of each car. */
    private static final class Way {
        private final Piece[] pieces;
        private int size;
        private int cell;
        private int heading;
        private int minute;

        Way(int limit, int start) {
            pieces = new Piece[limit];
            size = 0;
            cell = start;
            heading = 0;
            minute = 0;
        }

        void beginIn(int start) {
            cell = start;
        }

        boolean isFull() {
            return size >= pieces.length;
        }

        boolean staysOnGround(int cells) {
            int side = heading & LAST_HEADING;
            int x = (cell >> 4) + cells * STEP_X[side];
            int y = (cell & LAST_COORDINATE) + cells * STEP_Y[side];
            return isWithin(x, 0, LAST_COORDINATE) && isWithin(y, 0, LAST_COORDINATE);
        }

        void goOn(int cells, int turn) {
            append(new Piece(minute, cells, cell, heading, turn, true));
        }

        void stay(int minutes) {
            append(new Piece(minute, minutes, cell, heading, 0, false));
        }

        private void append(Piece piece) {
            if (isFull()) {
                return;
            }
            pieces[size] = piece;
            size++;
            minute = piece.end();
            cell = piece.lastCell();
            heading = (piece.heading + piece.turn) & LAST_HEADING;
        }

        Piece pieceAt(int number) {
            return isWithin(number, 0, size - 1) ? pieces[number] : null;
        }

        /** From piece to piece. */
        int firstMinuteIn(int target, int from) {
            for (int number = 0; number < size; number++) {
                Piece piece = pieceAt(number);
                int found = piece == null ? NONE : piece.firstMinuteIn(target, from);
                if (found != NONE) {
                    return found;
                }
            }
            return size == 0 && cell == target ? 0 : NONE;
        }

        /** From minute to minute. */
        int firstOfAllMinutes(int target, int from) {
            int number = 0;
            for (int asked = from; asked <= minute; asked++) {
                number = pieceAtMinute(asked, number);
                if (cellAtMinute(asked, number) == target) {
                    return asked;
                }
            }
            return NONE;
        }

        /** The number of the first piece, from the one named on, that does not end ahead of the minute. */
        int pieceAtMinute(int asked, int from) {
            int number = from;
            while (number < size - 1 && endsAhead(number, asked)) {
                number++;
            }
            return number;
        }

        private boolean endsAhead(int number, int asked) {
            Piece piece = pieceAt(number);
            return piece != null && piece.end() < asked;
        }

        int cellAtMinute(int asked, int number) {
            Piece piece = pieceAt(number);
            return piece == null ? cell : piece.cellAfter(asked - piece.begin);
        }

        int followedOf(Way asked) {
            int count = 0;
            for (int number = 0; number < size; number++) {
                Piece piece = pieceAt(number);
                if (piece == null || !piece.isDriven) {
                    continue;
                }
                Piece entry = asked.pieceAt(count);
                if (entry == null || !piece.isDrivenLike(entry)) {
                    return count;
                }
                count++;
            }
            return count;
        }
    }

    private static final class Gate {
        private final int entry;
        private final int cell;
        private final int dueMinute;

        Gate(int entry, int cell, int dueMinute) {
            this.entry = entry;
            this.cell = cell;
            this.dueMinute = dueMinute;
        }

        int pointsFor(int passed) {
            if (passed == NONE) {
                return MOST_GATE_POINTS;
            }
            int late = passed - dueMinute;
            return Math.min(MOST_GATE_POINTS, late < 0 ? -late * POINTS_EARLY : late);
        }
    }

    private static final class Car {
        private final Way track;
        private final int[] recorded;
        private int downBy;
        private int lostAppeals;

        Car(int start) {
            track = new Way(MOST_PIECES, start);
            recorded = new int[MOST_GATES];
            for (int gate = 0; gate < MOST_GATES; gate++) {
                recorded[gate] = NONE;
            }
            downBy = NONE;
            lostAppeals = 0;
        }

        boolean isDown() {
            return downBy != NONE;
        }

        int recordAt(int gate) {
            return isWithin(gate, 0, MOST_GATES - 1) ? recorded[gate] : NONE;
        }

        void setRecord(int gate, int minute) {
            if (isWithin(gate, 0, MOST_GATES - 1)) {
                recorded[gate] = minute;
            }
        }

        int timeAt(int gate, int byItsTrack) {
            int told = recordAt(gate);
            return told == NONE ? byItsTrack : told;
        }
    }

    private static final class Part {
        private final int kind;
        private final int owner;
        private int place;
        private int user;

        Part(int kind, int owner) {
            this.kind = kind;
            this.owner = owner;
            place = owner;
            user = NONE;
        }

        void useUp(int car) {
            place = USED_UP;
            user = car;
        }

        boolean isLentBy(int car) {
            return owner == car && (place == USED_UP ? user : place) != car;
        }
    }
}
