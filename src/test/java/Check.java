/** Compares answers with those that are due, and ends the test with exit code 1 if one differs. */
final class Check {
    static final Class<IndexOutOfBoundsException> INDEX = IndexOutOfBoundsException.class;
    static final Class<IllegalArgumentException> ARGUMENT = IllegalArgumentException.class;
    static final Class<IllegalStateException> STATE = IllegalStateException.class;
    static final Class<java.util.NoSuchElementException> ELEMENT = java.util.NoSuchElementException.class;

    private int asked;
    private int wrong;

    void same(String call, Object due, Object got) {
        asked++;
        if (!due.equals(got)) {
            wrong++;
            System.out.println(call + " answered " + got + ", due is " + due);
        }
    }

    void yes(String what, boolean holds) {
        same(what, true, holds);
    }

    /** The call must throw exactly this exception, and nothing that can be asked may differ behind it. */
    void refuses(String call, OriginRally rally, Class<? extends RuntimeException> due, Runnable run) {
        String before = Snapshot.of(rally);
        same(call, due.getName(), thrownBy(run));
        same("what is asked behind the refused " + call, before, Snapshot.of(rally));
    }

    /** What is asked of a rally changes nothing, so two looks at it are the same. */
    void looksChangeNothing(OriginRally rally) {
        same("a second look", Snapshot.of(rally), Snapshot.of(rally));
    }

    private static String thrownBy(Runnable run) {
        try {
            run.run();
            return "nothing";
        } catch (RuntimeException e) {
            return e.getClass().getName();
        }
    }

    void end(String test) {
        System.out.println(test + ": " + asked + " answers, " + wrong + " wrong");
        if (wrong != 0) {
            System.exit(1);
        }
    }
}
