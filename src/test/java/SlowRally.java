import java.util.ArrayList;
import java.util.Comparator;
import java.util.HashMap;
import java.util.List;
import java.util.Map;
import java.util.NoSuchElementException;

/**
 * The document once more, as a slow model for comparison: a car is here the list of the cells in which it was,
 * minute by minute, and nothing is shared with the class under test.
 */
final class SlowRally {
    private static final int NONE = -1, TENT = -1, USED_UP = -2;

    private static final class SlowCar {
        final List<Integer> cells = new ArrayList<>();
        final List<int[]> drives = new ArrayList<>();
        final Map<Integer, Integer> van = new HashMap<>();
        int heading;
        int pieces;
        int broken = NONE;
        int lost;

        int now() {
            return cells.get(cells.size() - 1);
        }

        int minutes() {
            return cells.size() - 1;
        }
    }

    private static final class SlowPart {
        int kind;
        int owner;
        int place;
        int usedBy = NONE;
    }

    private int start;
    private final List<int[]> entries = new ArrayList<>();
    private final List<Integer> ends = new ArrayList<>();
    private int bookHeading;
    private final List<int[]> gateList = new ArrayList<>();
    private int cutAt = 10;
    private final List<SlowCar> cars = new ArrayList<>();
    private final List<SlowPart> parts = new ArrayList<>();

    int setStart(int cell) {
        argument(cell < 0 || cell > 255);
        state(!entries.isEmpty() || !cars.isEmpty());
        int old = start;
        start = cell;
        return old;
    }

    int addEntry(int cells, int turn) {
        argument(cells < 1 || cells > 15 || turn < 0 || turn > 3);
        state(entries.size() == 30);
        int cell = ends.isEmpty() ? start : ends.get(ends.size() - 1);
        for (int step = 0; step < cells; step++) {
            cell = neighbour(cell, bookHeading);
            state(cell == NONE);
        }
        entries.add(new int[] {cells, turn});
        ends.add(cell);
        bookHeading = (bookHeading + turn) % 4;
        return cell;
    }

    int addGate(int entry, int allowed) {
        index(entry < 0 || entry >= entries.size());
        argument(allowed < 0 || allowed > 100);
        argument(!gateList.isEmpty() && gateList.get(gateList.size() - 1)[0] >= entry);
        state(gateList.size() == 10);
        gateList.add(new int[] {entry, allowed});
        return gateList.size() - 1;
    }

    int cut(int gates) {
        argument(gates < 0 || gates > 10);
        int old = cutAt;
        cutAt = gates;
        return old;
    }

    int enter() {
        state(cars.size() == 8);
        SlowCar car = new SlowCar();
        car.cells.add(start);
        cars.add(car);
        return cars.size() - 1;
    }

    int drive(int car, int cells, int turn) {
        SlowCar asked = car(car);
        argument(cells < 0 || cells > 15 || turn < 0 || turn > 3);
        state(asked.broken != NONE || asked.pieces == 60);
        List<Integer> seen = new ArrayList<>();
        int cell = asked.now();
        for (int step = 0; step < cells; step++) {
            cell = neighbour(cell, asked.heading);
            state(cell == NONE);
            seen.add(cell);
        }
        asked.cells.addAll(seen);
        asked.heading = (asked.heading + turn) % 4;
        asked.pieces++;
        asked.drives.add(new int[] {cells, turn});
        return asked.minutes();
    }

    int stand(int car, int minutes) {
        SlowCar asked = car(car);
        argument(minutes < 1 || minutes > 100);
        state(asked.pieces == 60);
        rest(asked, minutes);
        return asked.minutes();
    }

    void breakDown(int car, int kind) {
        SlowCar asked = car(car);
        index(kind < 0 || kind > 3);
        state(asked.broken != NONE);
        asked.broken = kind;
    }

    int mend(int car) {
        SlowCar asked = car(car);
        state(asked.broken == NONE || asked.pieces == 60);
        for (SlowPart part : parts) {
            if (part.place == car && part.kind == asked.broken) {
                part.place = USED_UP;
                part.usedBy = car;
                rest(asked, new int[] {3, 6, 9, 12}[asked.broken]);
                asked.broken = NONE;
                return parts.indexOf(part);
            }
        }
        throw new NoSuchElementException();
    }

    int bring(int kind, int owner) {
        index(kind < 0 || kind > 3);
        index(owner != TENT && (owner < 0 || owner >= cars.size()));
        state(parts.size() == 40);
        SlowPart part = new SlowPart();
        part.kind = kind;
        part.owner = owner;
        part.place = owner;
        parts.add(part);
        return parts.size() - 1;
    }

    int hand(int part, int to) {
        SlowPart asked = part(part);
        index(to != TENT && (to < 0 || to >= cars.size()));
        state(asked.place == USED_UP);
        state(asked.place == to);
        int here = asked.place == TENT ? start : cars.get(asked.place).now();
        int there = to == TENT ? start : cars.get(to).now();
        state(here != there);
        int old = asked.place;
        asked.place = to;
        return old;
    }

    int record(int car, int gate, int minute) {
        int old = time(car, gate);
        argument(minute < 0 || minute > 10000);
        cars.get(car).van.put(gate, minute);
        return old;
    }

    boolean appeal(int car, int gate) {
        int byTrack = pass(car, gate);
        Integer told = cars.get(car).van.get(gate);
        state(told == null);
        if (told == byTrack) {
            cars.get(car).lost++;
            return false;
        }
        cars.get(car).van.remove(gate);
        return true;
    }

    int gates() {
        return gateList.size();
    }

    int cellOf(int gate) {
        index(gate < 0 || gate >= gateList.size());
        return ends.get(gateList.get(gate)[0]);
    }

    int due(int gate) {
        index(gate < 0 || gate >= gateList.size());
        int sum = gateList.get(gate)[1];
        for (int entry = 0; entry <= gateList.get(gate)[0]; entry++) {
            sum += entries.get(entry)[0];
        }
        return sum;
    }

    int followed(int car) {
        SlowCar asked = car(car);
        int most = Math.min(asked.drives.size(), entries.size());
        for (int number = 0; number < most; number++) {
            if (!java.util.Arrays.equals(asked.drives.get(number), entries.get(number))) {
                return number;
            }
        }
        return most;
    }

    int cellAt(int car, int minute) {
        SlowCar asked = car(car);
        argument(minute < 0 || minute > asked.minutes());
        return asked.cells.get(minute);
    }

    int clock(int car) {
        return car(car).minutes();
    }

    /** The words of the document as they stand: by the last gate ahead of this one that it passed. */
    int pass(int car, int gate) {
        SlowCar asked = car(car);
        index(gate < 0 || gate >= gateList.size());
        int from = 0;
        for (int ahead = gate - 1; ahead >= 0; ahead--) {
            int minute = pass(car, ahead);
            if (minute != NONE) {
                from = minute;
                break;
            }
        }
        for (int minute = from; minute <= asked.minutes(); minute++) {
            if (asked.cells.get(minute) == cellOf(gate)) {
                return minute;
            }
        }
        return NONE;
    }

    int time(int car, int gate) {
        int byTrack = pass(car, gate);
        return cars.get(car).van.getOrDefault(gate, byTrack);
    }

    int points(int car) {
        int sum = car(car).lost * 10;
        for (int gate = 0; gate < Math.min(cutAt, gateList.size()); gate++) {
            int time = time(car, gate);
            int early = due(gate) - time;
            sum += time == NONE ? 60 : Math.min(60, early > 0 ? 2 * early : -early);
        }
        return sum;
    }

    int table(int place) {
        index(place < 0 || place >= cars.size());
        List<Integer> order = new ArrayList<>();
        for (int car = 0; car < cars.size(); car++) {
            order.add(car);
        }
        order.sort(Comparator.comparingInt(this::points));
        return order.get(place);
    }

    int where(int part) {
        return part(part).place;
    }

    int lent(int car) {
        car(car);
        int count = 0;
        for (SlowPart part : parts) {
            boolean usedByItself = part.place == USED_UP && part.usedBy == car;
            count += part.owner == car && part.place != car && !usedByItself ? 1 : 0;
        }
        return count;
    }

    boolean isBroken(int car) {
        return car(car).broken != NONE;
    }

    private static int neighbour(int cell, int heading) {
        int x = cell / 16;
        int y = cell % 16;
        switch (heading) {
            case 0: y++; break;
            case 1: x++; break;
            case 2: y--; break;
            default: x--; break;
        }
        return x < 0 || x > 15 || y < 0 || y > 15 ? NONE : 16 * x + y;
    }

    private static void rest(SlowCar car, int minutes) {
        int cell = car.now();
        for (int minute = 0; minute < minutes; minute++) {
            car.cells.add(cell);
        }
        car.pieces++;
    }

    private SlowCar car(int number) {
        index(number < 0 || number >= cars.size());
        return cars.get(number);
    }

    private SlowPart part(int number) {
        index(number < 0 || number >= parts.size());
        return parts.get(number);
    }

    private static void index(boolean wrong) {
        if (wrong) {
            throw new IndexOutOfBoundsException();
        }
    }

    private static void argument(boolean wrong) {
        if (wrong) {
            throw new IllegalArgumentException();
        }
    }

    private static void state(boolean wrong) {
        if (wrong) {
            throw new IllegalStateException();
        }
    }
}
