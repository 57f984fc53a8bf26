/** A RagVats and a SlowMill that have had the same calls. */
final class Twins {
    static final int BUY = 0;
    static final int SELL = 1;
    static final int FILL = 2;
    static final int DRAIN = 3;
    static final int PAIR = 4;
    static final int WIRE = 5;
    static final int TEAM = 6;
    static final int PLACE = 7;
    static final int SET_WATER = 8;
    static final int ABOUT = 9;
    static final int MOULD = 10;
    static final int TOLD = 11;
    static final int POST = 12;
    static final int LOFT = 13;
    static final int COUNT = 14;
    static final int PASS = 15;
    static final int RIPE = 16;
    static final int FORESEE = 17;
    static final int ADVISE = 18;
    static final int CALLS = 19;
    static final int[] ARGUMENTS = {2, 3, 3, 1, 2, 1, 1, 3, 2, 2, 2, 2, 2, 2, 1, 1, 2, 2, 1};

    final RagVats mill = new RagVats();
    private final SlowMill slow = new SlowMill();

    /** Makes this call on both; answers null if they agree, and else a text that tells what differs. */
    String call(int which, int a, int b, int c) {
        Object got;
        try {
            got = real(which, a, b, c);
        } catch (RuntimeException e) {
            got = e.getClass().getSimpleName();
        }
        Object want = slow(which, a, b, c);
        if (want.equals(got) && mill.digest() == slow.digest() && mill.mean() == slow.mean()) {
            return null;
        }
        return "call " + which + " of " + a + ", " + b + ", " + c + " answered " + got + ", SlowMill " + want
            + ", digests " + mill.digest() + " and " + slow.digest();
    }

    private Object real(int which, int a, int b, int c) {
        switch (which) {
            case BUY: return mill.buy(a, b);
            case SELL: return mill.sell(a, b, c);
            case FILL: return mill.fill(a, b, c);
            case DRAIN: return mill.drain(a);
            case PAIR: return mill.pair(a, b);
            case WIRE: return mill.wire(a);
            case TEAM: return mill.team(a);
            case PLACE: return mill.place(a, b, c);
            case SET_WATER: return mill.setWater(a, b);
            case ABOUT: return mill.about(a, b);
            case MOULD: return mill.mould(a, b);
            case TOLD: return mill.told(a, b);
            case POST: return mill.post(a, b);
            case LOFT: return mill.loft(a, b);
            case COUNT: return mill.count(a);
            case PASS: return mill.pass(a);
            case RIPE: return mill.ripe(a, b);
            case FORESEE: return mill.foresee(a, b);
            default: return mill.advise(a);
        }
    }

    private Object slow(int which, int a, int b, int c) {
        switch (which) {
            case BUY: return slow.buy(a, b);
            case SELL: return slow.sell(a, b, c);
            case FILL: return slow.fill(a, b, c);
            case DRAIN: return slow.drain(a);
            case PAIR: return slow.pair(a, b);
            case WIRE: return slow.wire(a);
            case TEAM: return slow.team(a);
            case PLACE: return slow.place(a, b, c);
            case SET_WATER: return slow.setWater(a, b);
            case ABOUT: return slow.about(a, b);
            case MOULD: return slow.mould(a, b);
            case TOLD: return slow.told(a, b);
            case POST: return slow.post(a, b);
            case LOFT: return slow.loft(a, b);
            case COUNT: return slow.count(a);
            case PASS: return slow.pass(a);
            case RIPE: return slow.ripe(a, b);
            case FORESEE: return slow.foresee(a, b);
            default: return slow.advise(a);
        }
    }
}
