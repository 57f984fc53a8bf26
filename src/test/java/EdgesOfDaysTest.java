/** "Terms", edge by edge: the river, and how a day goes, by its points 1 to 4. */
final class EdgesOfDaysTest {
    public static void main(String[] args) {
        riverBeginsAgainBehindSevenDays();
        riverHasFourAtFirst();
        beatIsSharedAndCut();
        emptyVatsHaveNoShare();
        beatIsNinetyNineAtMost();
        teamsTakeTheirTurns();
        emptyAtOnce();
        tooLittleStays();
        wearIsHalfRoundedUp();
        wearIsFiftyAtMost();
        noPostOfNoSheets();
        newPostsAreTheLast();
        pressesTwentyThree();
        pressesTwentyFour();
        pressesTwentyFive();
        pressesOldPostsFirst();
        dayIsOneGreater();
        Checks.end();
    }

    // "the day by the remainder of 7"
    private static void riverBeginsAgainBehindSevenDays() {
        for (int wet = 0; wet < 7; wet++) {
            RagVats mill = Checks.withWater(0);
            mill.setWater(wet, 1);
            mill.fill(0, 0, 1);
            for (int day = 0; day < 23; day++) {
                mill.pass(1);
                int due = day < wet ? 0 : 3 * ((day - wet) / 7 + 1);
                Checks.due("the day " + day + ", water on " + wet, due, mill.about(0, 1));
            }
        }
    }

    // "how much water it has, 0 to 9 (4, at first)"
    private static void riverHasFourAtFirst() {
        RagVats mill = new RagVats();
        mill.fill(0, 0, 1);
        for (int day = 1; day <= 8; day++) {
            mill.pass(1);
            Checks.due("behind " + day, 12 * day, mill.about(0, 1));
        }
        for (int water = 0; water <= 9; water++) {
            RagVats other = Checks.withWater(water);
            other.fill(0, 0, 1);
            other.pass(1);
            Checks.due("with the water " + water, 3 * water, other.about(0, 1));
        }
    }

    // "3 * the water of the day / the number of vats with pulp (cut)"
    private static void beatIsSharedAndCut() {
        int[][] vatsWaterBeat = {{1, 1, 3}, {2, 1, 1}, {2, 3, 4}, {2, 9, 13}, {3, 1, 1}, {3, 2, 2}, {3, 9, 9},
            {4, 1, 0}, {4, 2, 1}, {4, 3, 2}, {4, 4, 3}, {4, 5, 3}, {4, 9, 6}};
        for (int[] x : vatsWaterBeat) {
            RagVats mill = Checks.withWater(x[1]);
            for (int vat = 0; vat < x[0]; vat++) {
                mill.fill(vat, vat % 3, vat == 0 ? 1 : 40);
            }
            mill.pass(1);
            for (int vat = 0; vat < 4; vat++) {
                Checks.due(x[0] + " vats, water " + x[1], vat < x[0] ? x[2] : 0, mill.about(vat, 1));
            }
        }
    }

    // "Each vat with pulp": an empty one is not beaten, and without any there is nothing to share
    private static void emptyVatsHaveNoShare() {
        RagVats mill = Checks.withWater(9);
        Checks.due("all are empty", 0, mill.pass(1));
        for (int vat = 0; vat < 4; vat++) {
            Checks.due("not beaten", 0, mill.about(vat, 1));
        }
        mill.fill(3, 0, 1);
        mill.fill(1, 0, 1);
        mill.drain(1);
        mill.pass(1);
        Checks.due("all for the last", 27, mill.about(3, 1));
        Checks.due("none for the drained one", 0, mill.about(1, 1));
        mill.drain(3);
        Checks.due("all are empty again", 0, mill.pass(40));
        Checks.due("not beaten", 0, mill.about(3, 1));
    }

    // "up to 99"
    private static void beatIsNinetyNineAtMost() {
        RagVats exact = Mills.beaten(0, 1, 96);
        Mills.dayWithWater(exact, 1);
        Checks.due("96 and 3", 99, exact.about(0, 1));
        Mills.dayWithWater(exact, 1);
        Checks.due("99 and 3", 99, exact.about(0, 1));
        Mills.dayWithWater(exact, 9);
        Checks.due("99 and 27", 99, exact.about(0, 1));
        for (int beat = 97; beat <= 98; beat++) {
            RagVats more = Mills.beaten(0, 1, beat);
            Mills.dayWithWater(more, 1);
            Checks.due(beat + " and 3", 99, more.about(0, 1));
        }
        RagVats less = Mills.beaten(0, 1, 95);
        Mills.dayWithWater(less, 1);
        Checks.due("95 and 3", 98, less.about(0, 1));
        RagVats two = Mills.beaten(0, 1, 98);
        two.fill(1, 0, 1);
        Mills.dayWithWater(two, 1);
        Checks.due("98 and 1", 99, two.about(0, 1));
        Checks.due("the other has its share", 1, two.about(1, 1));
        Mills.dayWithWater(two, 9);
        Checks.due("what is too much is nobody's", 14, two.about(1, 1));
    }

    // "Teams, by numbers: each makes as many sheets as it would, by what is left as its turn comes."
    private static void teamsTakeTheirTurns() {
        RagVats mill = Mills.beaten(0, 20, 30);
        mill.team(12);
        mill.team(5);
        mill.team(12);
        for (int pair = 0; pair < 3; pair++) {
            mill.pair(pair, 1);
        }
        // In another order than their numbers, and not with the pairs of their numbers.
        for (int team = 2; team >= 0; team--) {
            mill.place(team, 0, 2 - team);
        }
        Checks.due("12, 5 and 3", 20, mill.pass(1));
        Checks.due("the first's", 12, mill.loft(2, 1));
        Checks.due("the second's", 5, mill.loft(1, 1));
        Checks.due("the third's", 3, mill.loft(0, 1));
    }

    // "with 0 left it is empty at once"
    private static void emptyAtOnce() {
        RagVats mill = Mills.beaten(0, 12, 60);
        Mills.addTeam(mill, 0, 12, 0, 1);
        Mills.addTeam(mill, 0, 12, 1, 1);
        mill.fill(1, 0, 1);
        Checks.due("both would make 12", 12, mill.told(1, 3));
        Checks.due("but the second finds it empty", 12, mill.pass(1));
        Checks.due("the second's wear", 0, mill.mould(1, 2));
        int[] due = {0, 0, -1};
        for (int what = 0; what < 3; what++) {
            Checks.due("empty " + what, due[what], mill.about(0, what));
        }
        Mills.dayWithWater(mill, 1);
        Checks.due("on the next day the other is beaten alone", 3, mill.about(1, 1));
        Checks.due("and the empty one is not", 0, mill.about(0, 1));
        Checks.due("it can be filled", 46, mill.fill(0, 0, 1));
    }

    // "what is too little for a sheet stays, and is beaten on"
    private static void tooLittleStays() {
        RagVats mill = Mills.beaten(1, 8, 60);
        Mills.addTeam(mill, 0, 12, 0, 3);
        Checks.due("2 of 8 pounds", 2, mill.pass(1));
        Checks.due("2 pounds stay", 2, mill.about(0, 0));
        Checks.due("their beat", 60, mill.about(0, 1));
        Checks.due("their sort", 1, mill.about(0, 2));
        mill.fill(1, 0, 1);
        Checks.due("nothing more is made", 0, Mills.dayWithWater(mill, 2));
        Checks.due("beaten on, with its share", 63, mill.about(0, 1));
        Checks.due("the other's share", 3, mill.about(1, 1));
        mill.pair(0, 1);
        Checks.due("enough for another size", 2, mill.place(0, 0, 1));
    }

    // "the pair is worn by half as much more as there are sheets (rounded up)"
    private static void wearIsHalfRoundedUp() {
        for (int skill = 1; skill <= 12; skill++) {
            RagVats mill = Mills.beaten(0, 40, 30);
            Mills.addTeam(mill, 0, skill, 0, 1);
            mill.pass(1);
            Checks.due("worn by " + skill + " sheets", (skill + 1) / 2, mill.mould(0, 2));
            mill.pass(1);
            Checks.due("twice", (skill + 1) / 2 * 2, mill.mould(0, 2));
        }
        RagVats large = Mills.beaten(0, 9, 30);
        Mills.addTeam(large, 0, 12, 0, 3);
        large.pass(1);
        Checks.due("by the sheets, not by the pounds", 2, large.mould(0, 2));
    }

    // "at most 50 in all (and goes on being used)"
    private static void wearIsFiftyAtMost() {
        for (int worn = 43; worn <= 50; worn++) {
            RagVats mill = Checks.withWater(0);
            mill.pair(0, 1);
            mill.pair(0, 1);
            mill.team(1);
            mill.team(12);
            Mills.wear(mill, 0, 0, worn);
            mill.place(0, -1, -1);
            mill.fill(0, 0, 40);
            Mills.beatTo(mill, 0, 30);
            Checks.due("it is used", 12, mill.place(1, 0, 0));
            Checks.due("it is used", 12, mill.pass(1));
            Checks.due(worn + " and 6", Math.min(50, worn + 6), mill.mould(0, 2));
            Checks.due("it goes on being used", 12, mill.pass(1));
            Checks.due("and no more than 50", 50, mill.mould(0, 2));
        }
        RagVats single = Checks.withWater(0);
        single.pair(0, 1);
        single.team(1);
        Mills.wear(single, 0, 0, 49);
        single.fill(0, 0, 3);
        Mills.beatTo(single, 0, 30);
        single.place(0, 0, 0);
        single.pass(1);
        Checks.due("49 and 1", 50, single.mould(0, 2));
        Checks.due("with 50 it makes sheets", 1, single.pass(1));
        Checks.due("50 stays", 50, single.mould(0, 2));
    }

    // "If these are 1 or more: they are a new post"
    private static void noPostOfNoSheets() {
        RagVats mill = Checks.withWater(0);
        mill.fill(0, 0, 40);
        mill.fill(1, 0, 20);
        for (int day = 0; day < 3; day++) {
            Mills.dayWithWater(mill, 9);
        }
        mill.buy(3, 20);
        Mills.addTeam(mill, 0, 12, 0, 1);
        Mills.addTeam(mill, 0, 12, 1, 1);
        Mills.addTeam(mill, 1, 12, 2, 1);
        Checks.due("12, 12 and 12", 36, mill.pass(1));
        mill.place(0, 3, 0);
        Checks.due("none at an empty vat, 12, and 8 of 8", 20, mill.pass(1));
        Checks.due("12 and 12 were pressed, and no post is of none", 1, mill.count(6));
        duePost(mill, 0, 2, 1, 8);
        Checks.due("4 are left for the second, none for the third", 4, mill.pass(1));
        Checks.due("all are pressed, and no post is of none", 0, mill.count(6));
        Checks.due("none are made any more", 0, mill.pass(1));
        Checks.due("no post", 0, mill.count(6));
        Checks.due("a single sheet is a post", 1, oneSheetLeft().count(6));
    }

    /** 12, 12 and a single sheet are made in one day, and the single one is left. */
    private static RagVats oneSheetLeft() {
        RagVats mill = Mills.beaten(0, 25, 60);
        for (int team = 0; team < 3; team++) {
            Mills.addTeam(mill, 0, 12, team, 1);
        }
        Checks.due("12, 12 and 1", 25, mill.pass(1));
        return mill;
    }

    private static void duePost(RagVats mill, int place, int mark, int grade, int sheets) {
        int[] due = {mark, grade, sheets};
        for (int what = 0; what < 3; what++) {
            int kind = what;
            Checks.dueUnchanged("post " + place + " " + what, mill, due[what], () -> mill.post(place, kind));
        }
    }

    // "a new post, at the end of the row, with the watermark of the pair, and the grade by the beat, the rags and the wear"
    private static void newPostsAreTheLast() {
        RagVats mill = Checks.withWater(0);
        mill.buy(3, 20);
        for (int vat = 0; vat < 3; vat++) {
            mill.fill(vat, vat, 40);
        }
        for (int day = 0; day < 7; day++) {
            Mills.dayWithWater(mill, 9);
        }
        Checks.due("the beat", 63, mill.about(2, 1));
        for (int team = 0; team < 3; team++) {
            Mills.addTeam(mill, team, 12, 9 - team, 1);
        }
        Checks.due("12 each", 36, mill.pass(1));
        duePost(mill, 0, 7, 2, 12);
        Checks.due("12 each", 36, mill.pass(1));
        Checks.due("the old one and the first new one are pressed", 2, mill.count(6));
        duePost(mill, 0, 8, 1, 12);
        duePost(mill, 1, 7, 2, 12);
        Checks.due("fine ones", 24, mill.loft(9, 0));
        Checks.due("plain ones", 12, mill.loft(8, 1));
        Checks.due("coarse ones", 12, mill.loft(7, 2));
        Checks.refused("no third post", mill, Checks.INDEX, () -> mill.post(2, 0));
    }

    /** Three teams of the skill 12 and of these have made sheets of the marks 0, 1 and 2 in one day, and 24 are pressed. */
    private static RagVats madeByThree(int second, int third) {
        RagVats mill = Mills.beaten(0, 40, 60);
        Mills.addTeam(mill, 0, 12, 0, 1);
        Mills.addTeam(mill, 0, second, 1, 1);
        Mills.addTeam(mill, 0, third, 2, 1);
        Checks.due("made", 12 + second + third, mill.pass(1));
        return mill;
    }

    // "up to 24 sheets": fewer
    private static void pressesTwentyThree() {
        RagVats mill = madeByThree(10, 1);
        Checks.due("no post is left", 0, mill.count(6));
        Checks.due("all hang", 23, mill.count(7));
        Checks.due("all felts are free", 30, mill.count(3));
    }

    // "up to 24 sheets"; "those of this day as well"; "A post without sheets is gone."
    private static void pressesTwentyFour() {
        RagVats mill = madeByThree(10, 2);
        Checks.due("no post is left", 0, mill.count(6));
        Checks.due("all hang", 24, mill.count(7));
        Checks.due("all felts are free", 30, mill.count(3));
        Checks.refused("no post", mill, Checks.INDEX, () -> mill.post(0, 2));
    }

    // "part of a post, if it has more than are left of the 24"
    private static void pressesTwentyFive() {
        RagVats mill = madeByThree(10, 3);
        Checks.due("one post is left", 1, mill.count(6));
        duePost(mill, 0, 2, 0, 1);
        Checks.due("two of it hang", 2, mill.loft(2, 0));
        Checks.due("24 hang", 24, mill.count(7));
        Checks.due("a felt is taken", 29, mill.count(3));
        RagVats first = madeByThree(11, 2);
        duePost(first, 0, 2, 0, 1);
        Checks.due("one of it hangs", 1, first.loft(2, 0));
        Checks.due("24 hang", 24, first.count(7));
        RagVats single = oneSheetLeft();
        Checks.due("a post that is not begun", 1, single.count(6));
        duePost(single, 0, 2, 0, 1);
        Checks.due("none of it hangs", 0, single.loft(2, 0));
        Checks.due("a felt is taken", 29, single.count(3));
    }

    // "from the first post on"; "their felts are free"
    private static void pressesOldPostsFirst() {
        RagVats mill = madeByThree(10, 8);
        duePost(mill, 0, 2, 0, 6);
        mill.place(0, -1, -1);
        mill.place(2, -1, -1);
        Checks.due("10 of the second", 10, mill.pass(1));
        Checks.due("the old 6 and the 10 are pressed", 0, mill.count(6));
        Checks.due("all hang", 40, mill.count(7));
        Checks.due("the old post's", 8, mill.loft(2, 0));
        Checks.due("nothing is made", 0, mill.pass(1));
        Checks.due("nothing is pressed", 40, mill.count(7));
    }

    // "The day is 1 greater."
    private static void dayIsOneGreater() {
        RagVats mill = new RagVats();
        Checks.due("the first day", 0, mill.count(0));
        for (int day = 1; day <= 15; day++) {
            mill.pass(1);
            Checks.due("the next day", day, mill.count(0));
        }
        // 400 calls of 40 days: the day has no end.
        for (int call = 0; call < 400; call++) {
            mill.pass(40);
        }
        Checks.due("the day by then", 16015, mill.count(0));
    }
}
