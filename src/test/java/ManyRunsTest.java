/** Promises 1 to 22 together: long runs of calls, the same ones each time, answered by SlowMill too. */
final class ManyRunsTest {
    private static final int RUNS = 300;
    private static final int CALLS = 512;
    private static final int[] FAR = {-1, -2, 13, 41, 100, Integer.MIN_VALUE, Integer.MAX_VALUE};

    private final RagVats mill = new RagVats();
    private final SlowMill slow = new SlowMill();
    private long seed;
    private String told = "";

    private ManyRunsTest(long seed) {
        this.seed = seed * 7919 + 17;
    }

    public static void main(String[] args) {
        int[] made = new int[3];
        for (int run = 0; run < RUNS; run++) {
            ManyRunsTest test = new ManyRunsTest(run);
            if (!test.run()) {
                Checks.fail("run " + run + ":" + test.told);
            }
            made[Math.min(2, test.mill.count(4) / 60)]++;
        }
        // Were the runs to make next to no sheets, they would tell little of the days.
        Checks.due("most runs make sheets", 1, made[1] + made[2] > RUNS / 2 ? 1 : 0);
        Checks.end();
    }

    private boolean run() {
        for (int call = 0; call < CALLS; call++) {
            int which = next(24);
            int[] x = arguments(which);
            Object got;
            try {
                got = real(which, x[0], x[1], x[2]);
            } catch (RuntimeException e) {
                got = e.getClass().getSimpleName();
            }
            Object want = slow(which, x[0], x[1], x[2]);
            if (!want.equals(got) || mill.digest() != slow.digest() || mill.mean() != slow.mean()) {
                told = " call " + call + ", kind " + which + " of " + x[0] + ", " + x[1] + ", " + x[2] + " answered "
                    + got + ", SlowMill " + want + ", digests " + mill.digest() + " and " + slow.digest();
                return false;
            }
        }
        return true;
    }

    /** Mostly such as the call takes, so that the runs come to something. */
    private int[] arguments(int which) {
        int a = number();
        int b = number();
        int c = number();
        switch (which) {
            case 0: case 1: return new int[] {good(a, 4), 1 + good(b, 9), c};
            case 2: return new int[] {a, b, 1 + good(c, 2)};
            case 3: case 4: return new int[] {good(a, 4), good(b, 3), 1 + good(c, 40)};
            // Vats are drained but seldom: else no pulp would be beaten long enough.
            case 5: return new int[] {next(12) == 0 ? good(a, 4) : FAR[next(FAR.length)], b, c};
            case 6: return new int[] {a, 1 + good(b, 3), c};
            case 8: return new int[] {1 + good(a, 12), b, c};
            case 9: case 10: return new int[] {good(a, 3), good(b, 5) - 1, good(c, 6) - 1};
            case 11: return new int[] {good(a, 7), good(b, 10), c};
            default: return new int[] {good(a, 5), good(b, 12), c};
        }
    }

    private int next(int bound) {
        seed = seed * 6364136223846793005L + 1442695040888963407L;
        return (int) ((seed >>> 33) % bound);
    }

    private int number() {
        return next(15) == 0 ? FAR[next(FAR.length)] : next(100);
    }

    /** A number below the bound, but where it was a wrong one. */
    private int good(int number, int bound) {
        return number < 0 || number > 99 ? number : number % bound;
    }

    private Object real(int which, int a, int b, int c) {
        switch (which) {
            case 0: case 1: return mill.buy(a, b);
            case 2: return mill.sell(good(a, 10), good(b, 3), c);
            case 3: case 4: return mill.fill(a, b, c);
            case 5: return mill.drain(a);
            case 6: return mill.pair(good(a, 3), b);
            case 7: return mill.wire(a);
            case 8: return mill.team(a);
            case 9: case 10: return mill.place(a, b, c);
            case 11: return mill.setWater(a, b);
            case 12: return mill.about(a, good(b, 3));
            case 13: return mill.mould(a, good(b, 4));
            case 14: return mill.told(a, good(b, 4));
            case 15: return mill.post(a, good(b, 3));
            case 16: return mill.loft(a, good(b, 3));
            case 17: return mill.count(b);
            case 18: return mill.ripe(a, c);
            case 19: return mill.foresee(good(c, 40), b);
            case 20: return mill.advise(good(a, 3));
            default: return mill.pass(good(a, 4) + 1);
        }
    }

    private Object slow(int which, int a, int b, int c) {
        switch (which) {
            case 0: case 1: return slow.buy(a, b);
            case 2: return slow.sell(good(a, 10), good(b, 3), c);
            case 3: case 4: return slow.fill(a, b, c);
            case 5: return slow.drain(a);
            case 6: return slow.pair(good(a, 3), b);
            case 7: return slow.wire(a);
            case 8: return slow.team(a);
            case 9: case 10: return slow.place(a, b, c);
            case 11: return slow.setWater(a, b);
            case 12: return slow.about(a, good(b, 3));
            case 13: return slow.mould(a, good(b, 4));
            case 14: return slow.told(a, good(b, 4));
            case 15: return slow.post(a, good(b, 3));
            case 16: return slow.loft(a, good(b, 3));
            case 17: return slow.count(b);
            case 18: return slow.ripe(a, c);
            case 19: return slow.foresee(good(c, 40), b);
            case 20: return slow.advise(good(a, 3));
            default: return slow.pass(good(a, 4) + 1);
        }
    }
}
