/**
 * Promises 2 to 20: each call with each of its edges as its arguments, and with all that are put together of them,
 * in mills of several states, answered by SlowMill too. What is refused must change nothing.
 */
final class EveryEdgeTest {
    // The last numbers that are allowed, and the first that are not, of the arguments of each call.
    private static final int[][][] EDGES = {
        {{-1, 0, 1, 2, 3, 4}, {0, 1, 13, 14, 20, 21, 40, 41, 99, 100}},
        {{-1, 0, 7, 8, 9, 10}, {-1, 0, 1, 2, 3}, {0, 1, 2, 9, 10}},
        {{-1, 0, 1, 2, 3, 4}, {-1, 0, 1, 2, 3}, {0, 1, 20, 21, 40, 41}},
        {{-1, 0, 1, 2, 3, 4}},
        {{-1, 0, 9, 10}, {0, 1, 2, 3, 4}},
        {{-1, 0, 1, 2, 3, 4, 5}},
        {{-1, 0, 1, 12, 13}},
        {{-1, 0, 1, 2, 3}, {-2, -1, 0, 1, 2, 3, 4}, {-2, -1, 0, 1, 2, 3, 4, 5}},
        {{-1, 0, 3, 5, 6, 7}, {-1, 0, 4, 9, 10}},
        {{-1, 0, 1, 2, 3, 4}, {-1, 0, 1, 2, 3}},
        {{-1, 0, 1, 2, 3, 4, 5}, {-1, 0, 1, 2, 3, 4}},
        {{-1, 0, 1, 2, 3}, {-1, 0, 1, 2, 3, 4}},
        {{-1, 0, 1, 2, 3, 89, 90, 91}, {-1, 0, 1, 2, 3}},
        {{-1, 0, 7, 8, 9, 10}, {-1, 0, 1, 2, 3}},
        {{-1, 0, 1, 2, 3, 4, 5, 6, 7, 8, 9, 10, 11, 12}},
        {{-1, 0, 1, 2, 39, 40, 41}},
        {{-1, 0, 1, 2, 3, 4}, {0, 1, 29, 30, 31, 98, 99, 100}},
        {{-1, 0, 1, 39, 40, 41}, {-1, 0, 1, 2, 3, 4, 5, 6, 7, 8, 9, 10, 11, 12}},
        {{-1, 0, 1, 2, 3}},
    };
    private static final int[] NO_ARGUMENT = {0};

    private static final int[][] FULL = {
        {Twins.BUY, 3, 20, 0},
        {Twins.FILL, 0, 0, 40}, {Twins.FILL, 1, 1, 40}, {Twins.FILL, 2, 2, 40},
        {Twins.PAIR, 9, 1, 0}, {Twins.PAIR, 8, 1, 0}, {Twins.PAIR, 7, 1, 0}, {Twins.PAIR, 0, 3, 0}, {Twins.PAIR, 9, 2, 0},
        {Twins.TEAM, 12, 0, 0}, {Twins.TEAM, 12, 0, 0}, {Twins.TEAM, 12, 0, 0}, {Twins.PASS, 7, 0, 0},
        {Twins.PLACE, 0, 0, 0}, {Twins.PLACE, 1, 1, 1}, {Twins.PLACE, 2, 2, 4}, {Twins.PASS, 3, 0, 0},
    };

    // New; without coins and fine rags; with one pair and one team; full of all, with posts and quires; much later.
    private static final int[][][] STATES = {
        {},
        {{Twins.BUY, 2, 40, 0}, {Twins.FILL, 3, 0, 40}, {Twins.FILL, 2, 0, 20}, {Twins.PASS, 1, 0, 0}},
        {{Twins.PAIR, 0, 3, 0}, {Twins.TEAM, 1, 0, 0}, {Twins.FILL, 0, 2, 20}, {Twins.PASS, 2, 0, 0},
            {Twins.PLACE, 0, 0, 0}, {Twins.PASS, 1, 0, 0}, {Twins.BUY, 0, 12, 0}},
        FULL,
        {{Twins.PAIR, 9, 2, 0}, {Twins.PAIR, 8, 1, 0}, {Twins.TEAM, 12, 0, 0}, {Twins.TEAM, 5, 0, 0},
            {Twins.FILL, 3, 1, 40}, {Twins.PLACE, 1, 3, 0}, {Twins.PASS, 40, 0, 0}, {Twins.FILL, 3, 0, 39},
            {Twins.PASS, 2, 0, 0}, {Twins.FILL, 1, 2, 2}, {Twins.BUY, 1, 18, 0}},
    };

    public static void main(String[] args) {
        Checks.due("edges for each call", Twins.CALLS, EDGES.length);
        for (int state = 0; state < STATES.length; state++) {
            for (int which = 0; which < Twins.CALLS; which++) {
                callWithEachEdge(state, which);
            }
        }
        Checks.end();
    }

    private static void callWithEachEdge(int state, int which) {
        for (int a : edges(which, 0)) {
            for (int b : edges(which, 1)) {
                for (int c : edges(which, 2)) {
                    String differs = inState(state).call(which, a, b, c);
                    if (differs != null) {
                        Checks.fail("state " + state + ", " + differs);
                    }
                }
            }
        }
    }

    /** Those of this argument, and the numbers at both ends of all; the argument that a call has not is 0. */
    private static int[] edges(int which, int argument) {
        if (argument >= Twins.ARGUMENTS[which]) {
            return NO_ARGUMENT;
        }
        int[] own = EDGES[which][argument];
        int[] all = new int[own.length + 2];
        System.arraycopy(own, 0, all, 1, own.length);
        all[0] = Integer.MIN_VALUE;
        all[own.length + 1] = Integer.MAX_VALUE;
        return all;
    }

    private static Twins inState(int state) {
        Twins twins = new Twins();
        for (int[] x : STATES[state]) {
            String differs = twins.call(x[0], x[1], x[2], x[3]);
            if (differs != null) {
                Checks.fail("on the way to the state " + state + ", " + differs);
            }
        }
        return twins;
    }
}
