/** Promises 14 to 17: how a day goes, and what post, loft, count and pass tell of it. */
final class DaysTest {
    private static final int[] FAR = {-1, Integer.MIN_VALUE, Integer.MAX_VALUE};

    public static void main(String[] args) {
        beats();
        beatsUpToNinetyNine();
        makesSheetsAndEmptiesTheVat();
        gradesByPoints();
        gradesByTheWearAhead();
        wearsUpToFifty();
        pressesTheFirstPosts();
        pressesOneSheetOfAPost();
        onePostForEachTeamAndDay();
        countsAll();
        refusesDays();
        refusesToTell();
        Checks.end();
    }

    private static void beats() {
        int[] dueWithWaterNine = {27, 13, 9, 6};
        RagVats mill = Checks.withWater(9);
        for (int vats = 1; vats <= 4; vats++) {
            mill.fill(vats - 1, 0, 1);
            int before = mill.about(0, 1);
            Checks.due("nothing is made", 0, mill.pass(1));
            Checks.due("beat among " + vats, before + dueWithWaterNine[vats - 1], mill.about(0, 1));
        }
        Checks.due("each by its own days", 13 + 9 + 6, mill.about(1, 1));
        Checks.due("each by its own days", 6, mill.about(3, 1));
        mill.drain(0);
        mill.pass(1);
        Checks.due("an empty vat does not count, and is not beaten", 0, mill.about(0, 1));
        Checks.due("the others share", 15, mill.about(3, 1));
        RagVats empty = new RagVats();
        Checks.due("no vat with pulp", 0, empty.pass(40));
        Checks.due("40 days", 40, empty.count(0));
        RagVats small = Checks.withWater(1);
        for (int vat = 0; vat < 4; vat++) {
            small.fill(vat, 0, 1);
        }
        small.pass(40);
        Checks.due("3 / 4 is cut to 0", 0, small.about(2, 1));
    }

    private static void beatsUpToNinetyNine() {
        RagVats mill = Checks.withWater(9);
        mill.fill(0, 0, 1);
        mill.pass(3);
        Checks.due("81", 81, mill.about(0, 1));
        mill.pass(1);
        Checks.due("99 at most", 99, mill.about(0, 1));
        mill.pass(1);
        Checks.due("and 99 stays", 99, mill.about(0, 1));
    }

    private static void makesSheetsAndEmptiesTheVat() {
        RagVats mill = new RagVats();
        mill.fill(0, 0, 40);
        mill.pair(5, 2);
        mill.team(8);
        mill.place(0, 0, 0);
        Checks.due("24 is too little", 0, mill.pass(2));
        Checks.due("36 is enough, on the same day", 8, mill.pass(1));
        Checks.due("plain by 3 + 6", 8, mill.loft(5, 1));
        Checks.due("8 sheets of size 2", 24, mill.about(0, 0));
        Checks.due("worn by 4", 4, mill.mould(0, 2));
        Checks.due("two days more", 12, mill.pass(2));
        Checks.due("plain by 4 + 6", 16, mill.loft(5, 1));
        Checks.due("fine by 6 + 6", 4, mill.loft(5, 0));
        Checks.due("worn by 4 + 4 + 2", 10, mill.mould(0, 2));
        Checks.due("empty at once: pulp", 0, mill.about(0, 0));
        Checks.due("empty at once: beat", 0, mill.about(0, 1));
        Checks.due("empty at once: sort", -1, mill.about(0, 2));
        Checks.due("the team stays", 0, mill.told(0, 1));
        Checks.due("made in all", 20, mill.count(4));
        Checks.due("worth", 16 * 7 + 4 * 12, mill.count(5));
        Checks.due("nothing more", 0, mill.pass(5));
    }

    /** The grade of a sheet made at this beat of new moulds. */
    private static int gradeAt(int sort, int beat) {
        RagVats mill = Checks.withWater(0);
        mill.fill(0, sort, 1);
        Checks.beatTo(mill, 0, beat);
        mill.pair(0, 1);
        mill.team(1);
        mill.place(0, 0, 0);
        mill.setWater(mill.count(0) % 7, 0);
        Checks.due("one sheet", 1, mill.pass(1));
        for (int grade = 0; grade < 3; grade++) {
            if (mill.loft(0, grade) == 1) {
                int worth = grade == 0 ? 12 : grade == 1 ? 7 : 3;
                Checks.due("its worth", worth, mill.count(5));
                return grade;
            }
        }
        return -1;
    }

    private static void gradesByPoints() {
        Checks.due("fine rags, 30", 1, gradeAt(0, 30));
        Checks.due("fine rags, 57", 1, gradeAt(0, 57));
        Checks.due("fine rags, 60", 0, gradeAt(0, 60));
        Checks.due("fine rags, 99", 0, gradeAt(0, 99));
        Checks.due("plain rags, 39", 2, gradeAt(1, 39));
        Checks.due("plain rags, 42", 1, gradeAt(1, 42));
        Checks.due("plain rags, 87", 1, gradeAt(1, 87));
        Checks.due("plain rags, 90", 0, gradeAt(1, 90));
        Checks.due("coarse rags, 30", 2, gradeAt(2, 30));
        Checks.due("coarse rags, 69", 2, gradeAt(2, 69));
        Checks.due("coarse rags, 72", 1, gradeAt(2, 72));
        Checks.due("coarse rags, 99", 1, gradeAt(2, 99));
    }

    private static void gradesByTheWearAhead() {
        RagVats mill = Checks.withWater(0);
        mill.fill(0, 0, 40);
        Checks.beatTo(mill, 0, 60);
        mill.pair(1, 1);
        mill.team(9);
        mill.place(0, 0, 0);
        mill.pass(1);
        Checks.due("worn by 5", 5, mill.mould(0, 2));
        Checks.due("fine", 9, mill.loft(1, 0));
        mill.pass(1);
        Checks.due("worn by 10 behind it", 10, mill.mould(0, 2));
        Checks.due("still fine by the wear ahead", 18, mill.loft(1, 0));
        mill.pass(1);
        Checks.due("no more of them", 18, mill.loft(1, 0));
        Checks.due("plain by 6 + 6 - 1", 9, mill.loft(1, 1));
        mill.wire(0);
        Checks.due("the table has come round", 6, mill.count(0));
        mill.setWater(6, 0);
        mill.pass(1);
        Checks.due("fine again with new wire", 27, mill.loft(1, 0));
    }

    private static void wearsUpToFifty() {
        RagVats mill = Checks.withWater(9);
        mill.pair(0, 1);
        mill.team(12);
        mill.place(0, 0, 0);
        int[] due = {6, 12, 18, 20, 26, 32, 38, 40, 46, 50, 50, 50};
        int at = 0;
        for (int sort = 0; sort < 3; sort++) {
            mill.place(0, -1, 0);
            mill.fill(0, sort, 40);
            mill.pass(4);
            mill.place(0, 0, 0);
            for (int day = 0; day < 4; day++) {
                Checks.due("it goes on being used", day < 3 ? 12 : 4, mill.pass(1));
                Checks.due("worn", due[at], mill.mould(0, 2));
                at++;
            }
        }
        Checks.due("at 50, coarse rags, 9 + 0 - 5: coarse", 1, mill.loft(0, 2) > 0 ? 1 : 0);
        Checks.dueDouble("the mean", 50.0, mill.mean());
    }

    /** A mill whose three teams make 10 sheets each of a vat of 40 pounds on the next day. */
    private static RagVats threeTeams() {
        RagVats mill = Checks.withWater(0);
        mill.fill(0, 0, 40);
        Checks.beatTo(mill, 0, 60);
        for (int team = 0; team < 3; team++) {
            mill.pair(team + 2, 1);
            mill.team(10);
            mill.place(team, 0, team);
        }
        return mill;
    }

    private static void duePost(RagVats mill, int place, int mark, int grade, int sheets) {
        Checks.dueUnchanged("post " + place + " mark", mill, mark, () -> mill.post(place, 0));
        Checks.dueUnchanged("post " + place + " grade", mill, grade, () -> mill.post(place, 1));
        Checks.dueUnchanged("post " + place + " sheets", mill, sheets, () -> mill.post(place, 2));
    }

    private static void pressesTheFirstPosts() {
        RagVats mill = threeTeams();
        Checks.due("30 are made", 30, mill.pass(1));
        Checks.due("one post is left", 1, mill.count(6));
        duePost(mill, 0, 4, 0, 6);
        Checks.due("loft 2", 10, mill.loft(2, 0));
        Checks.due("loft 3", 10, mill.loft(3, 0));
        Checks.due("loft 4", 4, mill.loft(4, 0));
        Checks.due("24 felts are free", 24, mill.count(3));
        mill.fill(1, 0, 20);
        mill.fill(2, 1, 40);
        Checks.due("10 pounds are left for the first alone", 10, mill.pass(1));
        Checks.due("6 and 10 are pressed", 0, mill.count(6));
        Checks.due("loft 2", 20, mill.loft(2, 0));
        Checks.due("loft 4", 10, mill.loft(4, 0));
        Checks.due("all felts are free", 30, mill.count(3));
        pressesPartsInTheirOrder();
    }

    private static void pressesPartsInTheirOrder() {
        RagVats mill = Checks.withWater(0);
        for (int vat = 0; vat < 3; vat++) {
            mill.fill(vat, vat, 40);
        }
        mill.setWater(0, 9);
        mill.setWater(1, 9);
        mill.setWater(2, 9);
        mill.setWater(3, 9);
        mill.pass(4);
        mill.buy(3, 20);
        for (int team = 0; team < 3; team++) {
            Checks.due("beat", 36, mill.about(team, 1));
            mill.pair(team, 1);
            mill.team(12);
            mill.place(team, 2 - team, team);
        }
        Checks.due("36 are made", 36, mill.pass(1));
        duePost(mill, 0, 2, 1, 12);
        Checks.due("36 more", 36, mill.pass(1));
        Checks.due("two of four posts are left", 2, mill.count(6));
        duePost(mill, 0, 1, 2, 12);
        duePost(mill, 1, 2, 1, 12);
        Checks.due("26 felts are free", 26, mill.count(3));
        Checks.due("no more than the felts, the last gets 2", 26, mill.pass(1));
        Checks.due("three posts", 3, mill.count(6));
        duePost(mill, 0, 0, 2, 12);
        duePost(mill, 1, 1, 2, 12);
        duePost(mill, 2, 2, 1, 2);
        for (int vat = 0; vat < 3; vat++) {
            Checks.due("pulp of " + vat, vat == 0 ? 14 : 4, mill.about(vat, 0));
        }
    }

    private static void pressesOneSheetOfAPost() {
        RagVats mill = Checks.withWater(0);
        mill.fill(0, 0, 40);
        Checks.beatTo(mill, 0, 60);
        int[] skills = {12, 11, 2};
        for (int team = 0; team < 3; team++) {
            mill.pair(team, 1);
            mill.team(skills[team]);
            mill.place(team, 0, team);
        }
        Checks.due("12, 11 and 2", 25, mill.pass(1));
        Checks.due("one post is left", 1, mill.count(6));
        duePost(mill, 0, 2, 0, 1);
        Checks.due("one sheet of it is pressed", 1, mill.loft(2, 0));
        Checks.due("all of mark 0", 12, mill.loft(0, 0));
        Checks.due("all are counted", 24, mill.count(7));
        mill.place(1, -1, -1);
        mill.place(2, -1, -1);
        Checks.due("12", 12, mill.pass(1));
        Checks.due("the sheet that was left, too", 2, mill.loft(2, 0));
        Checks.due("the row is empty", 0, mill.count(6));
    }

    private static void onePostForEachTeamAndDay() {
        RagVats mill = Checks.withWater(0);
        mill.fill(0, 0, 40);
        Checks.beatTo(mill, 0, 30);
        for (int team = 0; team < 3; team++) {
            mill.pair(6, 1);
            mill.team(team == 0 ? 12 : 10);
            mill.place(team, 0, team);
        }
        Checks.due("12, 10 and 8", 30, mill.pass(1));
        duePost(mill, 0, 6, 1, 6);
        Checks.due("then 10 of 10 pounds", 10, mill.pass(1));
        Checks.due("all are pressed", 0, mill.count(6));
        postsAreNotJoined();
    }

    private static void postsAreNotJoined() {
        RagVats mill = Checks.withWater(0);
        mill.fill(0, 0, 40);
        mill.fill(1, 0, 20);
        for (int day = 0; day < 3; day++) {
            mill.setWater(day, 9);
        }
        mill.pass(3);
        mill.buy(3, 20);
        for (int team = 0; team < 3; team++) {
            mill.pair(6, 1);
            mill.team(12);
            mill.place(team, team / 2, team);
        }
        Checks.due("12, 12 and 12", 36, mill.pass(1));
        duePost(mill, 0, 6, 1, 12);
        Checks.due("12, 4 of 4 pounds, and 8 of 8 pounds", 24, mill.pass(1));
        Checks.due("posts of one mark and grade are not joined", 2, mill.count(6));
        duePost(mill, 0, 6, 1, 4);
        duePost(mill, 1, 6, 1, 8);
        Checks.due("both vats are empty", 0, mill.count(8));
        Checks.due("nothing is made", 0, mill.pass(1));
        Checks.due("the rest is pressed", 0, mill.count(6));
        Checks.due("all in the loft", 60, mill.loft(6, 1));
    }

    private static void countsAll() {
        RagVats mill = threeTeams();
        mill.buy(3, 2);
        mill.buy(1, 3);
        mill.pass(1);
        int[] due = {4, 30, 32, 26, 30, 360, 1, 24, 10, 20, 63, 60};
        for (int what = 0; what < 12; what++) {
            int kind = what;
            Checks.dueUnchanged("count " + what, mill, due[what], () -> mill.count(kind));
        }
        for (int far : FAR) {
            Checks.refused("count " + far, mill, Checks.INDEX, () -> mill.count(far));
        }
        Checks.refused("count 12", mill, Checks.INDEX, () -> mill.count(12));
    }

    private static void refusesDays() {
        RagVats mill = threeTeams();
        int[] noDays = {0, -1, 41, Integer.MIN_VALUE, Integer.MAX_VALUE};
        for (int days : noDays) {
            Checks.refused("pass " + days, mill, Checks.ARGUMENT, () -> mill.pass(days));
        }
        Checks.due("40 days", 40, mill.pass(40));
        Checks.due("the day", 43, mill.count(0));
    }

    private static void refusesToTell() {
        RagVats mill = threeTeams();
        mill.pass(1);
        Checks.refused("no post at 1", mill, Checks.INDEX, () -> mill.post(1, 0));
        Checks.refused("post what 3", mill, Checks.INDEX, () -> mill.post(0, 3));
        Checks.refused("loft mark 10", mill, Checks.INDEX, () -> mill.loft(10, 0));
        Checks.refused("loft grade 3", mill, Checks.INDEX, () -> mill.loft(0, 3));
        Checks.dueUnchanged("loft", mill, 4, () -> mill.loft(4, 0));
        for (int far : FAR) {
            Checks.refused("post at " + far, mill, Checks.INDEX, () -> mill.post(far, 0));
            Checks.refused("post what " + far, mill, Checks.INDEX, () -> mill.post(0, far));
            Checks.refused("loft mark " + far, mill, Checks.INDEX, () -> mill.loft(far, 0));
            Checks.refused("loft grade " + far, mill, Checks.INDEX, () -> mill.loft(0, far));
        }
    }
}
