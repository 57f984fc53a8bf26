/** Promises 1 to 22 together: long runs of calls, the same ones each time, answered by SlowMill too. */
final class ManyRunsTest {
    private static final int RUNS = 900;
    // Each call is followed by digest() and mean(), and an object is used for at most 512 calls.
    private static final int CALLS = 170;
    private static final int[] FAR = {-1, -2, 13, 41, 100, Integer.MIN_VALUE, Integer.MAX_VALUE};
    // What leads to sheets comes more often than what only tells.
    private static final int[] OFTEN = {Twins.BUY, Twins.FILL, Twins.FILL, Twins.PAIR, Twins.TEAM, Twins.PLACE,
        Twins.PLACE, Twins.PLACE, Twins.PLACE, Twins.PASS, Twins.PASS, Twins.PASS, Twins.PASS, Twins.PASS};

    private static final int[] BEGINNING = {Twins.FILL, Twins.FILL, Twins.FILL, Twins.PAIR, Twins.PAIR, Twins.PAIR,
        Twins.TEAM, Twins.TEAM, Twins.TEAM, Twins.PASS, Twins.PLACE, Twins.PLACE, Twins.PLACE, Twins.PLACE};

    private final Twins twins = new Twins();
    private long seed;
    private final boolean begins;
    private String told = "";

    private ManyRunsTest(int run) {
        seed = run * 7919L + 17;
        begins = run % 2 == 1;
    }

    public static void main(String[] args) {
        int sheets = 0;
        for (int run = 0; run < RUNS; run++) {
            ManyRunsTest test = new ManyRunsTest(run);
            if (!test.run()) {
                Checks.fail("run " + run + ": " + test.told);
            }
            sheets += test.twins.mill.count(4);
        }
        // Were the runs to make next to no sheets, they would tell little of the days.
        Checks.due("the runs make sheets", 1, sheets > RUNS * 30 ? 1 : 0);
        Checks.end();
    }

    private boolean run() {
        for (int call = 0; call < CALLS; call++) {
            int which = which(call);
            int[] x = arguments(which);
            String differs = twins.call(which, x[0], x[1], x[2]);
            if (differs != null) {
                told = call + ", " + differs;
                return false;
            }
        }
        return true;
    }

    /** Every second run begins with pulp, pairs and teams: else there is little time for sheets. */
    private int which(int call) {
        if (begins && call < BEGINNING.length) {
            return BEGINNING[call];
        }
        int turn = next(Twins.CALLS + OFTEN.length);
        return turn < Twins.CALLS ? turn : OFTEN[turn - Twins.CALLS];
    }

    /** Mostly such as the call takes, so that the runs come to something. */
    private int[] arguments(int which) {
        switch (which) {
            case Twins.BUY: return of(from(0, 4), from(1, 9), 0);
            case Twins.SELL: return of(from(0, 3), from(0, 3), from(1, 2));
            case Twins.FILL: return of(from(0, 4), from(0, 3), from(1, 40));
            // Vats are drained but seldom: else no pulp would be beaten long enough.
            case Twins.DRAIN: return of(next(12) == 0 ? from(0, 4) : FAR[next(FAR.length)], 0, 0);
            case Twins.PAIR: return of(from(0, 3), from(1, 3), 0);
            case Twins.WIRE: return of(from(0, 5), 0, 0);
            case Twins.TEAM: return of(from(1, 12), 0, 0);
            case Twins.PLACE: return of(from(0, 3), from(-1, 5), from(-1, 6));
            case Twins.SET_WATER: return of(from(0, 7), from(0, 10), 0);
            case Twins.PASS: return of(from(1, 4), 0, 0);
            case Twins.RIPE: return of(from(0, 4), from(1, 99), 0);
            case Twins.FORESEE: return of(from(1, 40), from(0, 12), 0);
            case Twins.COUNT: return of(from(0, 12), 0, 0);
            case Twins.LOFT: return of(from(0, 3), from(0, 3), 0);
            default: return of(from(0, 4), from(0, 4), 0);
        }
    }

    private static int[] of(int a, int b, int c) {
        return new int[] {a, b, c};
    }

    private int next(int bound) {
        seed = seed * 6364136223846793005L + 1442695040888963407L;
        return (int) ((seed >>> 33) % bound);
    }

    /** One of so many numbers from the first one on, and now and then one that is far from them. */
    private int from(int first, int many) {
        return next(15) == 0 ? FAR[next(FAR.length)] : first + next(many);
    }
}
