/** Counts the answers that are not as due, and tells each of them. */
final class Check {
    private static int asked = 0;
    private static int wrong = 0;

    private Check() {
    }

    static void due(String what, long got, long want) {
        asked++;
        if (got != want) {
            wrong++;
            System.out.println(what + " answered " + got + ", due is " + want);
        }
    }

    static void due(String what, String got, String want) {
        asked++;
        if (!got.equals(want)) {
            wrong++;
            System.out.println(what + " answered " + got + ", due is " + want);
        }
    }

    static void holds(String what, boolean good) {
        due(what, good ? 1 : 0, 1);
    }

    static void refused(String what, Class<? extends Exception> kind, Runnable call) {
        asked++;
        String got = "nothing";
        try {
            call.run();
        } catch (RuntimeException e) {
            got = e.getClass().getSimpleName();
        }
        if (!got.equals(kind.getSimpleName())) {
            wrong++;
            System.out.println(what + " threw " + got + ", due is " + kind.getSimpleName());
        }
    }

    static void badArgument(String what, Runnable call) {
        refused(what, IllegalArgumentException.class, call);
    }

    static void badState(String what, Runnable call) {
        refused(what, IllegalStateException.class, call);
    }

    static void end() {
        System.out.println(asked + " answers, " + wrong + " wrong");
        if (wrong != 0 || asked == 0) {
            System.exit(1);
        }
    }
}
