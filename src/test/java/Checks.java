/** What the tests share: they print every answer that is not the one that is due, and end with 1 if there was one. */
final class Checks {
    interface Call {
        long answer();
    }

    static final Class<?> INDEX = IndexOutOfBoundsException.class;
    static final Class<?> ARGUMENT = IllegalArgumentException.class;
    static final Class<?> STATE = IllegalStateException.class;

    private static int wrong = 0;

    private Checks() {
    }

    static void due(String call, long want, long got) {
        if (got != want) {
            fail(call + " answered " + got + ", due is " + want);
        }
    }

    static void dueDouble(String call, double want, double got) {
        if (got != want) {
            fail(call + " answered " + got + ", due is " + want);
        }
    }

    /** The call must throw just this exception, by a throw of the program's own, and change nothing. */
    static void refused(String call, RagVats mill, Class<?> want, Call made) {
        long before = mill.digest();
        try {
            long got = made.answer();
            fail(call + " answered " + got + ", due is " + want.getSimpleName());
        } catch (RuntimeException e) {
            if (e.getClass() != want) {
                fail(call + " threw " + e.getClass().getName() + ", due is " + want.getSimpleName());
            }
        }
        if (mill.digest() != before) {
            fail(call + " was refused, but changed something");
        }
    }

    /** The call must answer so, and change nothing. */
    static void dueUnchanged(String call, RagVats mill, long want, Call made) {
        long before = mill.digest();
        due(call, want, made.answer());
        if (mill.digest() != before) {
            fail(call + " changed something");
        }
    }

    static void fail(String what) {
        wrong++;
        System.out.println(what);
    }

    static void end() {
        if (wrong != 0) {
            System.out.println(wrong + " answers are not as due");
            System.exit(1);
        }
    }

    /** A mill whose river has this water on every day. */
    static RagVats withWater(int water) {
        RagVats mill = new RagVats();
        for (int day = 0; day < 7; day++) {
            mill.setWater(day, water);
        }
        return mill;
    }

    /** Beats the only vat with pulp to just this beat, a multiple of 3, while no team makes sheets of it. */
    static void beatTo(RagVats mill, int vat, int beat) {
        for (int turn = 0; turn < 10 && mill.about(vat, 1) < beat; turn++) {
            int missing = beat - mill.about(vat, 1);
            int water = Math.min(9, missing / 3);
            mill.setWater(mill.count(0) % 7, water);
            mill.pass(1);
        }
        due("the beat that the test needs", beat, mill.about(vat, 1));
    }
}
