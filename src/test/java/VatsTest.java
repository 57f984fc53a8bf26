/** Promises 4, 5, 10 and 11: fill, drain, setWater and about. */
final class VatsTest {
    private static final int[] NO_VATS = {-1, 4, Integer.MIN_VALUE, Integer.MAX_VALUE};

    public static void main(String[] args) {
        fills();
        refusesToFill();
        drains();
        refusesToDrain();
        setsWater();
        tellsOfVats();
        Checks.end();
    }

    private static void fills() {
        RagVats mill = new RagVats();
        Checks.due("fill with 40", 20, mill.fill(0, 0, 40));
        Checks.due("fill with 1", 59, mill.fill(1, 1, 1));
        Checks.due("fill with the rest", 0, mill.fill(2, 0, 20));
        Checks.due("fill the last vat", 47, mill.fill(3, 2, 13));
        int[][] due = {{40, 0, 0}, {1, 0, 1}, {20, 0, 0}, {13, 0, 2}};
        for (int vat = 0; vat < 4; vat++) {
            for (int what = 0; what < 3; what++) {
                Checks.due("filled: about " + vat + " " + what, due[vat][what], mill.about(vat, what));
            }
        }
        Checks.due("fine rags", 0, mill.count(9));
        Checks.due("plain rags", 59, mill.count(10));
        Checks.due("coarse rags", 47, mill.count(11));
        Checks.due("all pulp", 74, mill.count(8));
    }

    private static void refusesToFill() {
        RagVats mill = new RagVats();
        mill.fill(0, 0, 40);
        for (int vat : NO_VATS) {
            Checks.refused("fill vat " + vat, mill, Checks.INDEX, () -> mill.fill(vat, 0, 1));
            Checks.refused("fill vat " + vat + " with 0", mill, Checks.INDEX, () -> mill.fill(vat, 0, 0));
        }
        int[] noSorts = {-1, 3, Integer.MIN_VALUE, Integer.MAX_VALUE};
        for (int rag : noSorts) {
            Checks.refused("fill with sort " + rag, mill, Checks.INDEX, () -> mill.fill(1, rag, 1));
            Checks.refused("fill with 41 of sort " + rag, mill, Checks.INDEX, () -> mill.fill(1, rag, 41));
            Checks.refused("fill a full vat, sort " + rag, mill, Checks.INDEX, () -> mill.fill(0, rag, 1));
        }
        int[] noPounds = {0, -1, 41, Integer.MIN_VALUE, Integer.MAX_VALUE};
        for (int pounds : noPounds) {
            Checks.refused("fill pounds " + pounds, mill, Checks.ARGUMENT, () -> mill.fill(1, 0, pounds));
            Checks.refused("fill a full vat, pounds " + pounds, mill, Checks.ARGUMENT, () -> mill.fill(0, 0, pounds));
        }
        Checks.refused("fill a vat that is not empty", mill, Checks.STATE, () -> mill.fill(0, 0, 1));
        mill.fill(3, 1, 1);
        Checks.refused("fill a vat with one pound", mill, Checks.STATE, () -> mill.fill(3, 1, 1));
        Checks.refused("fill it with another sort", mill, Checks.STATE, () -> mill.fill(0, 1, 1));
        Checks.refused("fill with more than are left", mill, Checks.STATE, () -> mill.fill(1, 0, 21));
        Checks.due("fill with all that are left", 0, mill.fill(1, 0, 20));
        Checks.refused("fill with none left", mill, Checks.STATE, () -> mill.fill(2, 0, 1));
    }

    private static void drains() {
        RagVats mill = new RagVats();
        mill.fill(2, 1, 33);
        mill.pass(2);
        Checks.due("the beat ahead", 24, mill.about(2, 1));
        Checks.due("drain", 33, mill.drain(2));
        Checks.due("drained: pulp", 0, mill.about(2, 0));
        Checks.due("drained: beat", 0, mill.about(2, 1));
        Checks.due("drained: sort", -1, mill.about(2, 2));
        Checks.due("the rags do not come back", 27, mill.count(10));
        Checks.due("no pulp", 0, mill.count(8));
        Checks.due("fill it again", 26, mill.fill(2, 1, 1));
        Checks.due("with a beat of 0", 0, mill.about(2, 1));
    }

    private static void refusesToDrain() {
        RagVats mill = new RagVats();
        mill.fill(1, 0, 1);
        for (int vat : NO_VATS) {
            Checks.refused("drain vat " + vat, mill, Checks.INDEX, () -> mill.drain(vat));
        }
        Checks.refused("drain an empty vat", mill, Checks.STATE, () -> mill.drain(0));
        Checks.due("drain one pound", 1, mill.drain(1));
        Checks.refused("drain it again", mill, Checks.STATE, () -> mill.drain(1));
    }

    private static void setsWater() {
        RagVats mill = new RagVats();
        for (int day = 0; day < 7; day++) {
            Checks.due("water at first", 4, mill.setWater(day, day));
        }
        for (int day = 0; day < 7; day++) {
            Checks.due("water then", day, mill.setWater(day, 9));
        }
        Checks.due("water 9 to 0", 9, mill.setWater(6, 0));
        Checks.due("water 0 to 0", 0, mill.setWater(6, 0));
        int[] noDays = {-1, 7, Integer.MIN_VALUE, Integer.MAX_VALUE};
        int[] noWater = {-1, 10, Integer.MIN_VALUE, Integer.MAX_VALUE};
        for (int day : noDays) {
            Checks.refused("water on day " + day, mill, Checks.INDEX, () -> mill.setWater(day, 1));
            for (int water : noWater) {
                Checks.refused("no day, no water", mill, Checks.INDEX, () -> mill.setWater(day, water));
            }
        }
        for (int water : noWater) {
            Checks.refused("water " + water, mill, Checks.ARGUMENT, () -> mill.setWater(0, water));
            Checks.refused("water " + water, mill, Checks.ARGUMENT, () -> mill.setWater(6, water));
        }
        eachDayHasItsWater();
    }

    private static void eachDayHasItsWater() {
        RagVats mill = Checks.withWater(0);
        for (int day = 0; day < 7; day++) {
            mill.setWater(day, day % 3);
        }
        mill.fill(0, 0, 1);
        int beat = 0;
        for (int day = 0; day < 16; day++) {
            mill.pass(1);
            beat += 3 * (day % 7 % 3);
            Checks.due("beat behind day " + day, beat, mill.about(0, 1));
        }
    }

    private static void tellsOfVats() {
        RagVats mill = new RagVats();
        mill.fill(3, 2, 7);
        mill.pass(1);
        Checks.dueUnchanged("pulp", mill, 7, () -> mill.about(3, 0));
        Checks.dueUnchanged("beat", mill, 12, () -> mill.about(3, 1));
        Checks.dueUnchanged("sort", mill, 2, () -> mill.about(3, 2));
        for (int vat : NO_VATS) {
            Checks.refused("about vat " + vat, mill, Checks.INDEX, () -> mill.about(vat, 0));
        }
        int[] noKinds = {-1, 3, Integer.MIN_VALUE, Integer.MAX_VALUE};
        for (int what : noKinds) {
            Checks.refused("about what " + what, mill, Checks.INDEX, () -> mill.about(3, what));
        }
    }
}
