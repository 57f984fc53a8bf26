/** Promises 14 to 17, edge by edge: each method has the sentence that it tests ahead of it. */
final class EdgesOfTellingTest {
    public static void main(String[] args) {
        postsFromNoughtToTheLast();
        noPostInAnEmptyRow();
        postTellsNoOtherKind();
        loftHasTenMarksAndThreeGrades();
        loftIsEmptiedBySelling();
        countTellsNoOtherKind();
        countsOfAFullMill();
        countsWhatWasMadeEvenWhenSold();
        countsThePulpOfAllVats();
        countsRagsInNoVat();
        passesOneDayAndForty();
        passTellsTheSheetsOfTheseDaysAlone();
        fortyDaysAreFortyTimesOne();
        Checks.end();
    }

    // "the place of a post in the row, from 0"; "if there is no such post"
    private static void postsFromNoughtToTheLast() {
        RagVats mill = Mills.withThreePosts();
        int[][] due = {{9, 1, 12}, {8, 1, 12}, {7, 2, 2}};
        for (int place = 0; place < 3; place++) {
            int where = place;
            for (int what = 0; what < 3; what++) {
                int kind = what;
                Checks.dueUnchanged("post " + place + what, mill, due[place][what], () -> mill.post(where, kind));
            }
        }
        for (int what = 0; what < 3; what++) {
            int kind = what;
            Checks.refused("post -1", mill, Checks.INDEX, () -> mill.post(-1, kind));
            Checks.refused("post 3 of three", mill, Checks.INDEX, () -> mill.post(3, kind));
        }
        for (int team = 0; team < 3; team++) {
            mill.place(team, -1, -1);
        }
        mill.pass(1);
        Checks.due("24 sheets were pressed", 1, mill.count(6));
        Checks.due("what was the third is the first", 7, mill.post(0, 0));
        Checks.due("with its 2 sheets", 2, mill.post(0, 2));
        Checks.refused("post 1 of one", mill, Checks.INDEX, () -> mill.post(1, 2));
    }

    // "if there is no such post"
    private static void noPostInAnEmptyRow() {
        RagVats mill = new RagVats();
        Checks.refused("post 0 at first", mill, Checks.INDEX, () -> mill.post(0, 0));
        RagVats pressed = Mills.beaten(0, 24, 30);
        Mills.addTeam(pressed, 0, 12, 3, 1);
        pressed.pass(2);
        Checks.due("sheets were made", 24, pressed.count(4));
        Checks.refused("post 0 behind the press", pressed, Checks.INDEX, () -> pressed.post(0, 0));
    }

    // "or what is not 0 to 2"
    private static void postTellsNoOtherKind() {
        RagVats mill = Mills.withThreePosts();
        for (int place = 0; place < 3; place++) {
            int where = place;
            Checks.refused("what -1", mill, Checks.INDEX, () -> mill.post(where, -1));
            Checks.refused("what 3", mill, Checks.INDEX, () -> mill.post(where, 3));
        }
    }

    // "if mark is not 0 to 9, or grade is not 0 to 2"
    private static void loftHasTenMarksAndThreeGrades() {
        RagVats mill = Mills.withThreePosts();
        for (int mark = 0; mark < 10; mark++) {
            int which = mark;
            for (int grade = 0; grade < 3; grade++) {
                int kind = grade;
                int due = mark >= 7 && mark + grade == 9 ? 24 : 0;
                Checks.dueUnchanged("loft " + mark + grade, mill, due, () -> mill.loft(which, kind));
            }
            Checks.refused("grade -1", mill, Checks.INDEX, () -> mill.loft(which, -1));
            Checks.refused("grade 3", mill, Checks.INDEX, () -> mill.loft(which, 3));
        }
        for (int grade = 0; grade < 3; grade++) {
            int kind = grade;
            Checks.refused("mark -1", mill, Checks.INDEX, () -> mill.loft(-1, kind));
            Checks.refused("mark 10", mill, Checks.INDEX, () -> mill.loft(10, kind));
        }
    }

    // "how many sheets of these hang in the loft": 0 again, and no others with them
    private static void loftIsEmptiedBySelling() {
        RagVats mill = Mills.withThreePosts();
        mill.sell(8, 1, 1);
        Checks.due("none hang", 0, mill.loft(8, 1));
        Checks.due("the others do", 24, mill.loft(9, 0));
        Checks.due("the others do", 24, mill.loft(7, 2));
        Checks.due("in all", 48, mill.count(7));
        mill.sell(9, 0, 1);
        mill.sell(7, 2, 1);
        Checks.due("the loft is empty", 0, mill.count(7));
        mill.pass(1);
        Checks.due("posts of two marks come into it", 12, mill.loft(8, 1));
        Checks.due("of another grade than before", 12, mill.loft(9, 1));
    }

    // "if what is not 0 to 11"
    private static void countTellsNoOtherKind() {
        RagVats mill = Mills.withThreePosts();
        Checks.refused("count -1", mill, Checks.INDEX, () -> mill.count(-1));
        Checks.refused("count 12", mill, Checks.INDEX, () -> mill.count(12));
        Checks.dueUnchanged("count 0", mill, 10, () -> mill.count(0));
        Checks.dueUnchanged("count 11", mill, 20, () -> mill.count(11));
    }

    // "0 the day, 1 coins, 2 felts, 3 felts that are free, 4 sheets that were made in all, ..."
    private static void countsOfAFullMill() {
        RagVats mill = Mills.withThreePosts();
        int worth = 24 * 12 + 12 * 7 + 36 * 7 + 26 * 3;
        int[] due = {10, 0, 50, 24, 98, worth, 3, 72, 22, 20, 20, 20};
        for (int what = 0; what < 12; what++) {
            int kind = what;
            Checks.dueUnchanged("count " + what, mill, due[what], () -> mill.count(kind));
        }
    }

    // "4 sheets that were made in all, 5 what these were worth as they were made, added"
    private static void countsWhatWasMadeEvenWhenSold() {
        RagVats mill = Mills.withThreePosts();
        int worth = mill.count(5);
        mill.sell(9, 0, 1);
        mill.sell(7, 2, 1);
        Checks.due("made in all", 98, mill.count(4));
        Checks.due("what they were worth", worth, mill.count(5));
        Checks.due("the coins are others", 15, mill.count(1));
        mill.drain(0);
        mill.wire(0);
        Checks.due("made in all", 98, mill.count(4));
        Checks.due("what they were worth", worth, mill.count(5));
    }

    // "8 the pulp of all vats": none, and all that they hold
    private static void countsThePulpOfAllVats() {
        RagVats mill = new RagVats();
        Checks.due("no pulp", 0, mill.count(8));
        int[] sorts = {0, 1, 2, 2};
        int[] pounds = {40, 40, 40, 20};
        int all = 0;
        for (int vat = 0; vat < 4; vat++) {
            mill.fill(vat, sorts[vat], pounds[vat]);
            all += pounds[vat];
            Checks.due("with the vat " + vat, all, mill.count(8));
        }
        mill.drain(3);
        mill.buy(2, 20);
        mill.fill(3, 2, 20);
        Checks.due("bought pounds too", 140, mill.count(8));
        mill.drain(3);
        mill.buy(1, 10);
        mill.fill(3, 1, 30);
        Checks.due("of another sort", 150, mill.count(8));
        for (int vat = 0; vat < 4; vat++) {
            mill.drain(vat);
        }
        Checks.due("no pulp again", 0, mill.count(8));
    }

    // "9 to 11 pounds of fine, plain and coarse rags that are in no vat"
    private static void countsRagsInNoVat() {
        for (int sort = 0; sort < 3; sort++) {
            RagVats mill = new RagVats();
            mill.fill(0, sort, 40);
            mill.fill(1, sort, 20);
            for (int other = 0; other < 3; other++) {
                Checks.due("the sort " + other, other == sort ? 0 : 60, mill.count(9 + other));
            }
            mill.drain(0);
            Checks.due("what ran off does not come back", 0, mill.count(9 + sort));
        }
    }

    // "if days is not 1 to 40"
    private static void passesOneDayAndForty() {
        RagVats mill = Mills.withThreePosts();
        Checks.refused("0 days", mill, Checks.ARGUMENT, () -> mill.pass(0));
        Checks.refused("-1 days", mill, Checks.ARGUMENT, () -> mill.pass(-1));
        Checks.refused("41 days", mill, Checks.ARGUMENT, () -> mill.pass(41));
        Checks.due("1 day: 4, 4 and 14 pounds are left", 4 + 4 + 12, mill.pass(1));
        Checks.due("the day", 11, mill.count(0));
        Checks.due("40 days", 2, mill.pass(40));
        Checks.due("the day", 51, mill.count(0));
    }

    // "Returns how many sheets are made in them."
    private static void passTellsTheSheetsOfTheseDaysAlone() {
        RagVats mill = Mills.beaten(0, 30, 30);
        Checks.due("without a team", 0, mill.pass(1));
        Mills.addTeam(mill, 0, 12, 0, 1);
        Checks.due("12", 12, mill.pass(1));
        Checks.due("12 and 6", 18, mill.pass(2));
        Checks.due("none", 0, mill.pass(1));
        Checks.due("in all", 30, mill.count(4));
    }

    private static void fortyDaysAreFortyTimesOne() {
        RagVats at = Checks.withWater(5);
        RagVats once = Checks.withWater(5);
        for (RagVats mill : new RagVats[] {at, once}) {
            mill.setWater(4, 0);
            mill.fill(0, 0, 40);
            mill.fill(3, 2, 17);
            Mills.addTeam(mill, 3, 4, 1, 2);
            Mills.addTeam(mill, 0, 3, 2, 3);
        }
        int made = 0;
        for (int day = 0; day < 40; day++) {
            made += once.pass(1);
        }
        Checks.due("the sheets", made, at.pass(40));
        Checks.due("the digest", once.digest(), at.digest());
    }
}
