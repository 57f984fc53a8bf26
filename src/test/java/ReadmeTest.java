/** The answers that README.md tells for its example. */
final class ReadmeTest {
    public static void main(String[] args) {
        RagVats mill = new RagVats();
        Checks.due("fill", 20, mill.fill(0, 0, 40));
        Checks.due("pair", 0, mill.pair(5, 2));
        Checks.due("team", 0, mill.team(8));
        Checks.due("place", 0, mill.place(0, 0, 0));
        Checks.dueUnchanged("ripe", mill, 3, () -> mill.ripe(0, 30));
        Checks.due("pass", 8, mill.pass(3));
        Checks.due("loft", 8, mill.loft(5, 1));
        Checks.dueUnchanged("foresee", mill, 160, () -> mill.foresee(2, 5));
        Checks.refused("sell", mill, Checks.STATE, () -> mill.sell(5, 1, 1));
        Checks.refused("fill", mill, Checks.STATE, () -> mill.fill(0, 0, 20));
        Checks.refused("team", mill, Checks.ARGUMENT, () -> mill.team(13));
        Checks.refused("told", mill, Checks.INDEX, () -> mill.told(1, 0));
        Checks.end();
    }
}
