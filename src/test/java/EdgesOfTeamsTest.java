/** Promises 6 to 9, 12 and 13, edge by edge: each method has the sentence that it tests ahead of it. */
final class EdgesOfTeamsTest {
    public static void main(String[] args) {
        markMinusOneAndTenAreNone();
        sizeNoughtAndFourAreNone();
        fifthPairIsTheLast();
        firstNamedOfPair();
        wiresAnyWearButNone();
        wiresForFiveCoinsAndNotForFour();
        wiresNoOtherPair();
        skillNoughtAndThirteenAreNone();
        thirdTeamIsTheLast();
        firstNamedOfTeam();
        placesNoOtherTeam();
        vatMinusOneIsNone();
        pairMinusOneIsNone();
        noTwoTeamsHaveOnePair();
        theyMayBeTheSame();
        firstNamedOfPlace();
        mouldTellsOfEachPairAndNoOther();
        toldTellsOfEachTeamAndNoOther();
        Checks.end();
    }

    // "if mark is not 0 to 9"
    private static void markMinusOneAndTenAreNone() {
        RagVats mill = new RagVats();
        Checks.refused("mark -1", mill, Checks.INDEX, () -> mill.pair(-1, 1));
        Checks.refused("mark 10", mill, Checks.INDEX, () -> mill.pair(10, 1));
        Checks.due("mark 0", 0, mill.pair(0, 1));
        Checks.due("mark 9", 1, mill.pair(9, 1));
        Checks.due("it has it", 0, mill.mould(0, 0));
        Checks.due("it has it", 9, mill.mould(1, 0));
    }

    // "if size is not 1 to 3"
    private static void sizeNoughtAndFourAreNone() {
        RagVats mill = new RagVats();
        Checks.refused("size 0", mill, Checks.ARGUMENT, () -> mill.pair(0, 0));
        Checks.refused("size -1", mill, Checks.ARGUMENT, () -> mill.pair(0, -1));
        Checks.refused("size 4", mill, Checks.ARGUMENT, () -> mill.pair(0, 4));
        Checks.due("size 1", 0, mill.pair(0, 1));
        Checks.due("size 3", 1, mill.pair(0, 3));
        Checks.due("it has it", 1, mill.mould(0, 1));
        Checks.due("it has it", 3, mill.mould(1, 1));
    }

    // "At most 5, numbered from 0 in the order of their coming"; "if there are 5"; "Returns its number."
    private static void fifthPairIsTheLast() {
        RagVats mill = new RagVats();
        for (int pair = 0; pair < 5; pair++) {
            int next = pair;
            Checks.refused("it is not there yet", mill, Checks.INDEX, () -> mill.mould(next, 0));
            Checks.due("its number", pair, mill.pair(9 - pair, 1 + pair % 3));
        }
        Checks.refused("the sixth", mill, Checks.STATE, () -> mill.pair(0, 1));
        Checks.refused("again", mill, Checks.STATE, () -> mill.pair(9, 3));
        for (int pair = 0; pair < 5; pair++) {
            int[] due = {9 - pair, 1 + pair % 3, 0, -1};
            for (int what = 0; what < 4; what++) {
                Checks.due("mould " + pair + " " + what, due[what], mill.mould(pair, what));
            }
        }
    }

    private static void firstNamedOfPair() {
        RagVats mill = Mills.withTeams();
        Checks.refused("no mark, no size, 5 are there", mill, Checks.INDEX, () -> mill.pair(10, 0));
        Checks.refused("no mark, 5 are there", mill, Checks.INDEX, () -> mill.pair(-1, 1));
        Checks.refused("no size, 5 are there", mill, Checks.ARGUMENT, () -> mill.pair(0, 4));
        Checks.refused("5 are there", mill, Checks.STATE, () -> mill.pair(0, 3));
        RagVats empty = new RagVats();
        Checks.refused("no mark, no size", empty, Checks.INDEX, () -> empty.pair(-1, 4));
        Checks.refused("no mark, size 0", empty, Checks.INDEX, () -> empty.pair(10, 0));
    }

    /** The pair 0 is worn by so much; the pair 1 is new; the team 0 has none of them. */
    private static RagVats worn(int worn) {
        RagVats mill = Checks.withWater(0);
        mill.pair(6, 1);
        mill.pair(7, 2);
        mill.team(1);
        Mills.wear(mill, 0, 0, worn);
        mill.place(0, -1, -1);
        return mill;
    }

    // "Returns by how much it was worn."; "it is not worn then"; "if it is not worn"
    private static void wiresAnyWearButNone() {
        for (int worn : new int[] {1, 49, 50}) {
            RagVats mill = worn(worn);
            Checks.due("wire", worn, mill.wire(0));
            int[] due = {6, 1, 0, -1};
            for (int what = 0; what < 4; what++) {
                Checks.due("wired " + what, due[what], mill.mould(0, what));
            }
            Checks.refused("not worn any more", mill, Checks.STATE, () -> mill.wire(0));
            Checks.refused("never worn", mill, Checks.STATE, () -> mill.wire(1));
            Checks.due("for 5 coins, once", 35, mill.count(1));
        }
    }

    // "or the mill has fewer than 5 coins"
    private static void wiresForFiveCoinsAndNotForFour() {
        RagVats mill = worn(1);
        mill.buy(2, 36);
        Checks.due("4 coins", 4, mill.count(1));
        Checks.refused("for 4 coins", mill, Checks.STATE, () -> mill.wire(0));
        Checks.refused("neither worn nor coins", mill, Checks.STATE, () -> mill.wire(1));
        RagVats richer = worn(1);
        richer.buy(2, 35);
        Checks.due("for 5 coins", 1, richer.wire(0));
        Checks.due("none is left", 0, richer.count(1));
    }

    // "if there is no such pair"
    private static void wiresNoOtherPair() {
        RagVats mill = worn(2);
        Checks.refused("wire -1", mill, Checks.INDEX, () -> mill.wire(-1));
        Checks.refused("wire 2 of two", mill, Checks.INDEX, () -> mill.wire(2));
        mill.buy(2, 40);
        Checks.refused("wire -1 without coins", mill, Checks.INDEX, () -> mill.wire(-1));
        Checks.refused("wire 2 without coins", mill, Checks.INDEX, () -> mill.wire(2));
        Checks.refused("wire 5 without coins", mill, Checks.INDEX, () -> mill.wire(5));
        RagVats full = Mills.withTeams();
        full.fill(0, 0, 1);
        Mills.beatTo(full, 0, 30);
        full.place(0, 0, 4);
        full.pass(1);
        Checks.refused("wire 5 of five", full, Checks.INDEX, () -> full.wire(5));
        Checks.due("wire 4 of five", 1, full.wire(4));
    }

    // "if skill is not 1 to 12"
    private static void skillNoughtAndThirteenAreNone() {
        RagVats mill = new RagVats();
        Checks.refused("skill 0", mill, Checks.ARGUMENT, () -> mill.team(0));
        Checks.refused("skill -1", mill, Checks.ARGUMENT, () -> mill.team(-1));
        Checks.refused("skill 13", mill, Checks.ARGUMENT, () -> mill.team(13));
        Checks.due("skill 1", 0, mill.team(1));
        Checks.due("skill 12", 1, mill.team(12));
        Checks.due("it has it", 1, mill.told(0, 0));
        Checks.due("it has it", 12, mill.told(1, 0));
    }

    // "At most 3, numbered likewise"; "if there are 3"; "A new team, without a vat and a pair."
    private static void thirdTeamIsTheLast() {
        RagVats mill = new RagVats();
        mill.pair(0, 1);
        for (int team = 0; team < 3; team++) {
            int next = team;
            Checks.refused("it is not there yet", mill, Checks.INDEX, () -> mill.told(next, 0));
            Checks.refused("nor is it placed", mill, Checks.INDEX, () -> mill.place(next, 0, 0));
            Checks.refused("nor advised", mill, Checks.INDEX, () -> mill.advise(next));
            Checks.due("its number", team, mill.team(5 + team));
        }
        Checks.refused("the fourth", mill, Checks.STATE, () -> mill.team(1));
        Checks.refused("again", mill, Checks.STATE, () -> mill.team(12));
        for (int team = 0; team < 3; team++) {
            int[] due = {5 + team, -1, -1, 0};
            for (int what = 0; what < 4; what++) {
                Checks.due("told " + team + " " + what, due[what], mill.told(team, what));
            }
        }
    }

    private static void firstNamedOfTeam() {
        RagVats mill = Mills.withTeams();
        Checks.refused("no skill, 3 are there", mill, Checks.ARGUMENT, () -> mill.team(0));
        Checks.refused("too much skill, 3 are there", mill, Checks.ARGUMENT, () -> mill.team(13));
        Checks.refused("3 are there", mill, Checks.STATE, () -> mill.team(12));
    }

    // "if there is no such team"
    private static void placesNoOtherTeam() {
        RagVats mill = new RagVats();
        mill.pair(0, 1);
        mill.team(1);
        mill.team(1);
        Checks.refused("team -1", mill, Checks.INDEX, () -> mill.place(-1, 0, 0));
        Checks.refused("team 2 of two", mill, Checks.INDEX, () -> mill.place(2, 0, 0));
        mill.place(0, 1, -1);
        mill.place(1, 2, -1);
        Checks.due("the team 0", 1, mill.told(0, 1));
        Checks.due("the team 1", 2, mill.told(1, 1));
        RagVats full = Mills.withTeams();
        Checks.refused("team 3 of three", full, Checks.INDEX, () -> full.place(3, 0, 0));
        full.place(2, 3, 4);
        Checks.due("the team 2", 3, full.told(2, 1));
    }

    // "the vat, -1 for none"; "or vat ... is none of these"
    private static void vatMinusOneIsNone() {
        RagVats mill = Mills.withTeams();
        mill.place(0, 1, 0);
        Checks.refused("vat -2", mill, Checks.INDEX, () -> mill.place(0, -2, 0));
        Checks.refused("vat 4", mill, Checks.INDEX, () -> mill.place(0, 4, 0));
        for (int vat = 3; vat >= -1; vat--) {
            Checks.due("an empty vat or none", 0, mill.place(0, vat, 0));
            Checks.due("it is there", vat, mill.told(0, 1));
            Checks.due("with its pair", 0, mill.told(0, 2));
        }
    }

    // "the pair, -1 for none"; "or ... pair is none of these"
    private static void pairMinusOneIsNone() {
        RagVats mill = new RagVats();
        mill.team(1);
        Checks.refused("pair -2 of none", mill, Checks.INDEX, () -> mill.place(0, 1, -2));
        Checks.refused("pair 0 of none", mill, Checks.INDEX, () -> mill.place(0, 1, 0));
        Checks.due("without a pair", 0, mill.place(0, 1, -1));
        for (int pair = 0; pair < 5; pair++) {
            mill.pair(pair, 1);
            int next = pair + 1;
            Checks.refused("it is not there yet", mill, Checks.INDEX, () -> mill.place(0, 1, next));
            Checks.refused("pair -2", mill, Checks.INDEX, () -> mill.place(0, 1, -2));
            Checks.due("the last one", 0, mill.place(0, 1, pair));
            Checks.due("it has it", pair, mill.told(0, 2));
        }
        mill.place(0, 1, -1);
        Checks.due("it has none", -1, mill.told(0, 2));
        Checks.due("nobody has it", -1, mill.mould(4, 3));
    }

    // "No two teams have the same pair; several can be at one vat."; "if another team has this pair"
    private static void noTwoTeamsHaveOnePair() {
        RagVats mill = Mills.withTeams();
        for (int holder = 0; holder < 3; holder++) {
            mill.place(holder, 2, 4);
            for (int other = 0; other < 3; other++) {
                int team = other;
                if (other == holder) {
                    Checks.due("its own", 0, mill.place(team, 2, 4));
                } else {
                    Checks.refused("another's", mill, Checks.STATE, () -> mill.place(team, 2, 4));
                    Checks.refused("another's, at no vat", mill, Checks.STATE, () -> mill.place(team, -1, 4));
                }
            }
            Checks.due("the one that has it", holder, mill.mould(4, 3));
            mill.place(holder, 2, -1);
        }
        for (int team = 0; team < 3; team++) {
            Checks.due("all at one vat, none with a pair", 2, mill.told(team, 1));
            Checks.due("all at one vat, none with a pair", -1, mill.told(team, 2));
        }
        mill.place(0, -1, 1);
        Checks.refused("had at no vat", mill, Checks.STATE, () -> mill.place(1, 0, 1));
        mill.place(0, -1, 2);
        Checks.due("had no more", 0, mill.place(1, 0, 1));
        Checks.due("the other has it", 1, mill.mould(1, 3));
    }

    // "in the place of those that it had; they may be the same"; "Returns how many sheets it would make now."
    private static void theyMayBeTheSame() {
        RagVats mill = Mills.beaten(0, 40, 30);
        Checks.due("placed", 7, Mills.addTeam(mill, 0, 7, 0, 1));
        mill.pair(1, 3);
        Checks.due("the same", 7, mill.place(0, 0, 0));
        Checks.due("the same vat, another pair", 7, mill.place(0, 0, 1));
        Checks.due("what it had is free", -1, mill.mould(0, 3));
        Checks.due("an empty vat, the same pair", 0, mill.place(0, 1, 1));
        Checks.due("neither", 0, mill.place(0, -1, -1));
        Checks.due("neither again", 0, mill.place(0, -1, -1));
    }

    private static void firstNamedOfPlace() {
        RagVats mill = Mills.withTeams();
        mill.place(0, 0, 0);
        Checks.refused("no team, another's pair", mill, Checks.INDEX, () -> mill.place(3, 0, 0));
        Checks.refused("team -1, another's pair", mill, Checks.INDEX, () -> mill.place(-1, 0, 0));
        Checks.refused("no vat, another's pair", mill, Checks.INDEX, () -> mill.place(1, 4, 0));
        Checks.refused("vat -2, another's pair", mill, Checks.INDEX, () -> mill.place(1, -2, 0));
        Checks.refused("no team, no vat, no pair", mill, Checks.INDEX, () -> mill.place(3, 4, 5));
        Checks.refused("another's pair", mill, Checks.STATE, () -> mill.place(1, 0, 0));
    }

    // "if there is no such pair, or what is not 0 to 3"
    private static void mouldTellsOfEachPairAndNoOther() {
        RagVats mill = worn(3);
        mill.place(0, -1, 1);
        int[][] due = {{6, 1, 3, -1}, {7, 2, 0, 0}};
        for (int pair = 0; pair < 2; pair++) {
            int which = pair;
            for (int what = 0; what < 4; what++) {
                int kind = what;
                Checks.dueUnchanged("mould " + pair + what, mill, due[pair][what], () -> mill.mould(which, kind));
            }
            Checks.refused("what -1", mill, Checks.INDEX, () -> mill.mould(which, -1));
            Checks.refused("what 4", mill, Checks.INDEX, () -> mill.mould(which, 4));
        }
        Checks.refused("pair -1", mill, Checks.INDEX, () -> mill.mould(-1, 3));
        Checks.refused("pair 2 of two", mill, Checks.INDEX, () -> mill.mould(2, 0));
        RagVats full = Mills.withTeams();
        full.place(2, -1, 4);
        Checks.due("the last pair's team", 2, full.mould(4, 3));
        Checks.refused("pair 5 of five", full, Checks.INDEX, () -> full.mould(5, 0));
    }

    // "if there is no such team, or what is not 0 to 3"; "3 how many sheets it would make now"
    private static void toldTellsOfEachTeamAndNoOther() {
        RagVats mill = Mills.beaten(0, 40, 30);
        Mills.addTeam(mill, 0, 3, 0, 1);
        mill.team(9);
        int[][] due = {{3, 0, 0, 3}, {9, -1, -1, 0}};
        for (int team = 0; team < 2; team++) {
            int which = team;
            for (int what = 0; what < 4; what++) {
                int kind = what;
                Checks.dueUnchanged("told " + team + what, mill, due[team][what], () -> mill.told(which, kind));
            }
            Checks.refused("what -1", mill, Checks.INDEX, () -> mill.told(which, -1));
            Checks.refused("what 4", mill, Checks.INDEX, () -> mill.told(which, 4));
        }
        Checks.refused("team -1", mill, Checks.INDEX, () -> mill.told(-1, 1));
        Checks.refused("team 2 of two", mill, Checks.INDEX, () -> mill.told(2, 0));
        RagVats full = Mills.withTeams();
        Checks.due("the last team", 12, full.told(2, 0));
        Checks.refused("team 3 of three", full, Checks.INDEX, () -> full.told(3, 0));
    }
}
