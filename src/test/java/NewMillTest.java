/** Promise 1: a new object. */
final class NewMillTest {
    public static void main(String[] args) {
        RagVats mill = new RagVats();
        int[] counts = {0, 40, 30, 30, 0, 0, 0, 0, 0, 60, 60, 60};
        for (int what = 0; what < 12; what++) {
            Checks.due("new: count " + what, counts[what], mill.count(what));
        }
        for (int vat = 0; vat < 4; vat++) {
            Checks.due("new: pulp of " + vat, 0, mill.about(vat, 0));
            Checks.due("new: beat of " + vat, 0, mill.about(vat, 1));
            Checks.due("new: sort of " + vat, -1, mill.about(vat, 2));
        }
        for (int mark = 0; mark < 10; mark++) {
            for (int grade = 0; grade < 3; grade++) {
                Checks.due("new: loft " + mark + " " + grade, 0, mill.loft(mark, grade));
            }
        }
        Checks.refused("new: mould", mill, Checks.INDEX, () -> mill.mould(0, 0));
        Checks.refused("new: told", mill, Checks.INDEX, () -> mill.told(0, 0));
        Checks.refused("new: post", mill, Checks.INDEX, () -> mill.post(0, 0));
        for (int day = 0; day < 7; day++) {
            Checks.due("new: water of day " + day, 4, mill.setWater(day, 4));
        }
        twoMillsShareNothing();
        Checks.end();
    }

    private static void twoMillsShareNothing() {
        RagVats one = new RagVats();
        RagVats other = new RagVats();
        long before = other.digest();
        one.buy(3, 1);
        one.fill(0, 0, 10);
        one.pair(1, 1);
        one.team(3);
        one.setWater(2, 9);
        one.pass(3);
        Checks.due("another mill stays as it was", before, other.digest());
    }
}
