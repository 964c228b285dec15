import java.util.TreeSet;

/** Counts what is as due, by promise, and tells what is not. */
final class Check {
    interface Call { long answer(); }

    private static int right;
    private static int wrong;
    private static int promise;
    private static final TreeSet<Integer> promises = new TreeSet<>();

    private Check() { }

    static void promise(int number) {
        promise = number;
        promises.add(number);
    }

    static void due(String what, long want, long got) {
        if (want == got) {
            right++;
        } else {
            wrong++;
            System.out.println("promise " + promise + ": " + what + " answered " + got + ", due is " + want);
        }
    }

    static void due(String what, boolean want, boolean got) {
        due(what, want ? 1 : 0, got ? 1 : 0);
    }

    /** The very class is due, not one below it. */
    static void refused(String what, Class<? extends RuntimeException> want, Call call) {
        String got;
        try {
            got = "answered " + call.answer();
        } catch (RuntimeException e) {
            got = e.getClass().getName();
        }
        if (got.equals(want.getName())) {
            right++;
        } else {
            wrong++;
            System.out.println("promise " + promise + ": " + what + " " + got + ", due is " + want.getName());
        }
    }

    static void index(String what, Call call) {
        refused(what, IndexOutOfBoundsException.class, call);
    }

    static void argument(String what, Call call) {
        refused(what, IllegalArgumentException.class, call);
    }

    static void state(String what, Call call) {
        refused(what, IllegalStateException.class, call);
    }

    static void element(String what, Call call) {
        refused(what, java.util.NoSuchElementException.class, call);
    }

    /** Ends the test's main: all promises from first to last are due to have been looked at. */
    static void close(String name, int... due) {
        for (int number : due) {
            if (!promises.contains(number)) {
                wrong++;
                System.out.println("promise " + number + " was not looked at");
            }
        }
        System.out.println(name + ": " + right + " as due, " + wrong + " not, promises " + promises);
        if (wrong > 0 || right == 0) {
            System.exit(1);
        }
    }
}
