import java.math.BigInteger;
import java.util.ArrayList;
import java.util.List;

/** Promise 22: digest, computed here of what the other calls tell, without a bound, and cut to 64 bits at the end. */
final class DigestTest {
    private static final int[] NEW_RIVER = {4, 4, 4, 4, 4, 4, 4};

    public static void main(String[] args) {
        RagVats mill = new RagVats();
        dueDigest("new", mill, NEW_RIVER, 0, 0);
        int[] river = {0, 1, 2, 9, 8, 7, 3};
        for (int day = 0; day < 7; day++) {
            mill.setWater(day, river[day]);
            int[] now = NEW_RIVER.clone();
            System.arraycopy(river, 0, now, 0, day + 1);
            dueDigest("river", mill, now, 0, 0);
        }
        mill.fill(0, 0, 40);
        mill.fill(2, 1, 33);
        dueDigest("vats", mill, river, 0, 0);
        for (int number = 0; number < 3; number++) {
            mill.pair(number * 4, 1);
            mill.team(10 + number);
            mill.place(number, number == 1 ? 2 : 0, number);
            dueDigest("pairs and teams", mill, river, number + 1, number + 1);
        }
        mill.pair(9, 3);
        for (int day = 0; day < 9; day++) {
            mill.pass(1);
            dueDigest("day " + day, mill, river, 4, 3);
        }
        Checks.due("sheets were made", 1, mill.count(4) > 40 ? 1 : 0);
        Checks.end();
    }

    private static void dueDigest(String when, RagVats mill, int[] river, int pairs, int teams) {
        BigInteger d = BigInteger.valueOf(1429);
        for (int x : allTold(mill, river, pairs, teams)) {
            d = d.multiply(BigInteger.valueOf(31)).add(BigInteger.valueOf(x));
        }
        Checks.due("digest, " + when, d.longValue(), mill.digest());
        Checks.due("digest again, " + when, d.longValue(), mill.digest());
    }

    private static List<Integer> allTold(RagVats mill, int[] river, int pairs, int teams) {
        List<Integer> all = new ArrayList<>();
        for (int what = 0; what < 12; what++) {
            all.add(mill.count(what));
        }
        for (int water : river) {
            all.add(water);
        }
        for (int i = 0; i < 4 * 3; i++) {
            all.add(mill.about(i / 3, i % 3));
        }
        for (int i = 0; i < pairs * 4; i++) {
            all.add(mill.mould(i / 4, i % 4));
        }
        for (int i = 0; i < teams * 4; i++) {
            all.add(mill.told(i / 4, i % 4));
        }
        for (int i = 0; i < mill.count(6) * 3; i++) {
            all.add(mill.post(i / 3, i % 3));
        }
        for (int i = 0; i < 10 * 3; i++) {
            all.add(mill.loft(i / 3, i % 3));
        }
        return all;
    }
}
