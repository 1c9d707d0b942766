/** All that can be asked of a rally, as a text. */
final class Snapshot {
    private Snapshot() {
    }

    static String of(OriginRally rally) {
        StringBuilder text = new StringBuilder();
        int gates = rally.gates();
        text.append("gates ").append(gates).append('\n');
        for (int gate = 0; gate < gates; gate++) {
            text.append("gate ").append(rally.cellOf(gate)).append(' ').append(rally.due(gate)).append('\n');
        }
        for (int car = 0; hasCar(rally, car); car++) {
            addCar(text, rally, car, gates);
        }
        for (int part = 0; hasPart(rally, part); part++) {
            text.append("part ").append(rally.where(part)).append('\n');
        }
        return text.toString();
    }

    private static void addCar(StringBuilder text, OriginRally rally, int car, int gates) {
        int clock = rally.clock(car);
        text.append("car ").append(clock).append(' ').append(rally.followed(car));
        text.append(' ').append(rally.points(car)).append(' ').append(rally.lent(car));
        text.append(' ').append(rally.isBroken(car)).append(" place ").append(rally.table(car)).append('\n');
        for (int minute = 0; minute <= clock; minute++) {
            text.append(rally.cellAt(car, minute)).append(' ');
        }
        for (int gate = 0; gate < gates; gate++) {
            text.append("\ntimes ").append(rally.byTrack(car, gate)).append(' ');
            text.append(rally.byMinutes(car, gate)).append(' ').append(rally.time(car, gate));
        }
        text.append('\n');
    }

    private static boolean hasCar(OriginRally rally, int car) {
        try {
            rally.clock(car);
            return true;
        } catch (IndexOutOfBoundsException e) {
            return false;
        }
    }

    private static boolean hasPart(OriginRally rally, int part) {
        try {
            rally.where(part);
            return true;
        } catch (IndexOutOfBoundsException e) {
            return false;
        }
    }
}
