import java.util.function.Consumer;
import java.util.function.Function;
import java.util.function.Supplier;

/** Compares answers with those that are due, and ends the test with exit code 1 if one differs. */
final class Check {
    static final Class<IndexOutOfBoundsException> INDEX = IndexOutOfBoundsException.class;
    static final Class<IllegalArgumentException> ARGUMENT = IllegalArgumentException.class;
    static final Class<IllegalStateException> STATE = IllegalStateException.class;
    static final Class<java.util.NoSuchElementException> ELEMENT = java.util.NoSuchElementException.class;
    static final String THROWS = "throws ";

    private String sentence = "";
    private int asked;
    private int wrong;

    /** The sentence of the document that the answers from here on belong to; it is printed with wrong ones. */
    void sentence(String place, String words) {
        sentence = "[" + place + ": " + words + "] ";
    }

    void same(String call, Object due, Object got) {
        asked++;
        if (!due.equals(got)) {
            wrong++;
            System.out.println(sentence + call + " answered " + got + ", due is " + due);
        }
    }

    void yes(String what, boolean holds) {
        same(what, true, holds);
    }

    /** Both times of a car by its track, at the gates from 0 on. */
    void passes(Replay rally, int car, int... due) {
        for (int gate = 0; gate < due.length; gate++) {
            same("byTrack(" + car + ", " + gate + ")", due[gate], rally.byTrack(car, gate));
            same("byMinutes(" + car + ", " + gate + ")", due[gate], rally.byMinutes(car, gate));
        }
    }

    /** The places of the table from 0 on. */
    void table(Replay rally, int... due) {
        for (int place = 0; place < due.length; place++) {
            same("table(" + place + ")", due[place], rally.table(place));
        }
    }

    /** The call must throw exactly this exception, and a rally behind it must answer like one without it. */
    void refuses(String call, Replay rally, Class<? extends RuntimeException> due, Consumer<Replay> refused) {
        same(call, THROWS + due.getName(), answer(rally, refused));
        for (Function<Replay, String> probe : Probe.ALL) {
            Replay without = rally.again();
            Replay behind = rally.again();
            answer(behind, refused);
            sameLines("what is asked behind the refused " + call, probe.apply(without), probe.apply(behind));
        }
    }

    /** What is asked of a rally changes nothing, so what it answers behind all questions is the same. */
    void looksChangeNothing(Replay rally) {
        for (Function<Replay, String> probe : Probe.ALL) {
            Replay without = rally.again();
            Replay behind = rally.again();
            Probe.asked(behind);
            Probe.times(behind);
            sameLines("what is asked again", probe.apply(without), probe.apply(behind));
        }
    }

    /** Compares texts, but tells no more of them than the first line that differs. */
    private void sameLines(String what, String due, String got) {
        if (due.equals(got)) {
            same(what, "", "");
            return;
        }
        String[] dueLines = due.split("\n");
        String[] gotLines = got.split("\n");
        int line = 0;
        while (lineOf(dueLines, line).equals(lineOf(gotLines, line)) && line < dueLines.length) {
            line++;
        }
        same(what + ", line " + line, "'" + lineOf(dueLines, line) + "'", lineOf(gotLines, line));
    }

    private static String lineOf(String[] lines, int number) {
        return number < lines.length ? lines[number] : "no such line";
    }

    /** The answer as a text, or the name of what the call throws. */
    static String answer(Supplier<Object> call) {
        try {
            return String.valueOf(call.get());
        } catch (RuntimeException e) {
            return THROWS + e.getClass().getName();
        }
    }

    private static String answer(Replay rally, Consumer<Replay> call) {
        return answer(() -> {
            call.accept(rally);
            return "nothing";
        });
    }

    void end(String test) {
        System.out.println(test + ": " + asked + " answers, " + wrong + " wrong");
        if (wrong != 0) {
            System.exit(1);
        }
    }
}
