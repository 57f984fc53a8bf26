/** Promises 6 to 9, 12 and 13: pair, wire, team, place, mould and told. */
final class TeamsTest {
    private static final int[] FAR = {-2, 99, Integer.MIN_VALUE, Integer.MAX_VALUE};

    public static void main(String[] args) {
        addsPairs();
        refusesPairs();
        wires();
        refusesToWire();
        addsTeams();
        refusesTeams();
        places();
        refusesToPlace();
        tellsTheSheets();
        refusesToTell();
        Checks.end();
    }

    private static void addsPairs() {
        RagVats mill = new RagVats();
        int[][] due = {{0, 1}, {9, 3}, {0, 1}, {5, 2}, {7, 3}};
        for (int pair = 0; pair < 5; pair++) {
            Checks.due("a new pair", pair, mill.pair(due[pair][0], due[pair][1]));
        }
        for (int pair = 0; pair < 5; pair++) {
            Checks.due("its mark", due[pair][0], mill.mould(pair, 0));
            Checks.due("its size", due[pair][1], mill.mould(pair, 1));
            Checks.due("not worn", 0, mill.mould(pair, 2));
            Checks.due("no team has it", -1, mill.mould(pair, 3));
        }
        Checks.due("a pair costs nothing", 40, mill.count(1));
    }

    private static void refusesPairs() {
        RagVats mill = new RagVats();
        int[] noMarks = {-1, 10, Integer.MIN_VALUE, Integer.MAX_VALUE};
        int[] noSizes = {0, -1, 4, Integer.MIN_VALUE, Integer.MAX_VALUE};
        for (int round = 0; round < 2; round++) {
            for (int mark : noMarks) {
                Checks.refused("pair mark " + mark, mill, Checks.INDEX, () -> mill.pair(mark, 1));
                for (int size : noSizes) {
                    Checks.refused("pair mark and size", mill, Checks.INDEX, () -> mill.pair(mark, size));
                }
            }
            for (int size : noSizes) {
                Checks.refused("pair size " + size, mill, Checks.ARGUMENT, () -> mill.pair(0, size));
            }
            for (int pair = 0; pair < 5 && round == 0; pair++) {
                Checks.due("pairs up to 5", pair, mill.pair(pair, 1));
            }
        }
        Checks.refused("a sixth pair", mill, Checks.STATE, () -> mill.pair(0, 1));
    }

    /** A mill whose pair 0 made 9 sheets, and is worn by 5, half of 9 rounded up. */
    private static RagVats worn() {
        RagVats mill = Checks.withWater(0);
        mill.fill(0, 0, 9);
        Checks.beatTo(mill, 0, 30);
        mill.pair(2, 1);
        mill.pair(3, 1);
        mill.team(12);
        mill.place(0, 0, 0);
        Checks.due("nine sheets", 9, mill.pass(1));
        return mill;
    }

    private static void wires() {
        RagVats mill = worn();
        Checks.due("worn by 5", 5, mill.mould(0, 2));
        Checks.due("wire", 5, mill.wire(0));
        Checks.due("not worn then", 0, mill.mould(0, 2));
        Checks.due("for 5 coins", 35, mill.count(1));
        Checks.due("its team keeps it", 0, mill.mould(0, 3));
        Checks.due("its mark stays", 2, mill.mould(0, 0));
    }

    private static void refusesToWire() {
        RagVats mill = worn();
        Checks.refused("wire no pair", mill, Checks.INDEX, () -> mill.wire(2));
        Checks.refused("wire pair -1", mill, Checks.INDEX, () -> mill.wire(-1));
        for (int pair : FAR) {
            Checks.refused("wire pair " + pair, mill, Checks.INDEX, () -> mill.wire(pair));
        }
        Checks.refused("wire a new pair", mill, Checks.STATE, () -> mill.wire(1));
        mill.buy(2, 36);
        Checks.refused("wire for 4 coins", mill, Checks.STATE, () -> mill.wire(0));
        RagVats exact = worn();
        exact.buy(2, 35);
        Checks.due("wire for the last 5 coins", 5, exact.wire(0));
        Checks.due("no coins then", 0, exact.count(1));
        Checks.refused("wire again", exact, Checks.STATE, () -> exact.wire(0));
    }

    private static void addsTeams() {
        RagVats mill = new RagVats();
        int[] skills = {1, 12, 6};
        for (int team = 0; team < 3; team++) {
            Checks.due("a new team", team, mill.team(skills[team]));
        }
        for (int team = 0; team < 3; team++) {
            Checks.due("its skill", skills[team], mill.told(team, 0));
            Checks.due("at no vat", -1, mill.told(team, 1));
            Checks.due("without a pair", -1, mill.told(team, 2));
            Checks.due("makes nothing", 0, mill.told(team, 3));
        }
    }

    private static void refusesTeams() {
        RagVats mill = new RagVats();
        int[] noSkills = {0, -1, 13, Integer.MIN_VALUE, Integer.MAX_VALUE};
        for (int round = 0; round < 2; round++) {
            for (int skill : noSkills) {
                Checks.refused("team of skill " + skill, mill, Checks.ARGUMENT, () -> mill.team(skill));
            }
            for (int team = 0; team < 3 && round == 0; team++) {
                Checks.due("teams up to 3", team, mill.team(1));
            }
        }
        Checks.refused("a fourth team", mill, Checks.STATE, () -> mill.team(1));
    }

    private static void places() {
        RagVats mill = Checks.withWater(0);
        mill.fill(1, 0, 23);
        Checks.beatTo(mill, 1, 30);
        mill.pair(0, 2);
        mill.pair(1, 3);
        mill.team(12);
        mill.team(5);
        Checks.due("place with size 2", 11, mill.place(0, 1, 0));
        Checks.due("its vat", 1, mill.told(0, 1));
        Checks.due("its pair", 0, mill.told(0, 2));
        Checks.due("the pair's team", 0, mill.mould(0, 3));
        Checks.due("two teams at one vat, by the skill", 5, mill.place(1, 1, 1));
        Checks.due("the pair's team", 1, mill.mould(1, 3));
        Checks.due("the same again", 5, mill.place(1, 1, 1));
        Checks.due("without a vat, with the same pair", 0, mill.place(1, -1, 1));
        Checks.due("no vat", -1, mill.told(1, 1));
        Checks.due("still its pair", 1, mill.told(1, 2));
        Checks.due("without a pair", 0, mill.place(1, 1, -1));
        Checks.due("the pair is free", -1, mill.mould(1, 3));
        Checks.due("the pair goes to the other, size 3", 7, mill.place(0, 1, 1));
        Checks.due("and the other's is free", -1, mill.mould(0, 3));
        Checks.due("an empty vat", 0, mill.place(0, 3, 1));
        Checks.due("without both", 0, mill.place(0, -1, -1));
        Checks.due("several teams without a pair", 0, mill.place(1, -1, -1));
        Checks.due("nothing goes by", 2, mill.count(0));
    }

    private static void refusesToPlace() {
        RagVats mill = new RagVats();
        mill.team(3);
        mill.team(4);
        mill.pair(0, 1);
        mill.pair(1, 1);
        mill.place(0, 2, 0);
        Checks.refused("place no team", mill, Checks.INDEX, () -> mill.place(2, 0, 1));
        Checks.refused("place team -1", mill, Checks.INDEX, () -> mill.place(-1, 0, 1));
        Checks.refused("vat 4", mill, Checks.INDEX, () -> mill.place(1, 4, 1));
        Checks.refused("vat 4 and a pair that is had", mill, Checks.INDEX, () -> mill.place(1, 4, 0));
        Checks.refused("pair 2", mill, Checks.INDEX, () -> mill.place(1, 0, 2));
        for (int far : FAR) {
            Checks.refused("place team " + far, mill, Checks.INDEX, () -> mill.place(far, 0, 0));
            Checks.refused("place at vat " + far, mill, Checks.INDEX, () -> mill.place(1, far, 0));
            Checks.refused("place with pair " + far, mill, Checks.INDEX, () -> mill.place(1, 0, far));
        }
        Checks.refused("another team has it", mill, Checks.STATE, () -> mill.place(1, 0, 0));
        Checks.refused("at no vat too", mill, Checks.STATE, () -> mill.place(1, -1, 0));
        mill.place(0, 2, 1);
        Checks.due("it is free now", 0, mill.place(1, 0, 0));
        Checks.refused("another team has it", mill, Checks.STATE, () -> mill.place(0, 2, 0));
    }

    private static void tellsTheSheets() {
        RagVats mill = Checks.withWater(0);
        mill.fill(0, 0, 40);
        mill.pair(0, 1);
        mill.team(12);
        mill.place(0, 0, 0);
        mill.setWater(0, 9);
        mill.pass(1);
        Checks.due("27 is too little", 0, mill.told(0, 3));
        mill.place(0, -1, 0);
        mill.setWater(1, 1);
        mill.pass(1);
        Checks.due("30 is enough", 12, mill.place(0, 0, 0));
        Checks.due("told the same", 12, mill.told(0, 3));
        feltsBoundTheSheets();
        moreThanThePulp();
    }

    private static void feltsBoundTheSheets() {
        RagVats mill = Checks.withWater(0);
        mill.fill(0, 0, 40);
        Checks.beatTo(mill, 0, 30);
        for (int team = 0; team < 3; team++) {
            mill.team(12);
            mill.pair(team, 1);
            mill.place(team, 0, team);
        }
        Checks.due("12, 12 and the 6 felts that are left", 30, mill.pass(1));
        Checks.due("24 are free again", 24, mill.count(3));
        Checks.due("of 10 pounds", 10, mill.told(2, 3));
    }

    private static void moreThanThePulp() {
        RagVats mill = Checks.withWater(0);
        mill.fill(0, 0, 2);
        Checks.beatTo(mill, 0, 60);
        mill.pair(0, 3);
        mill.pair(0, 2);
        mill.team(12);
        Checks.due("2 pounds are too little for size 3", 0, mill.place(0, 0, 0));
        mill.setWater(mill.count(0) % 7, 1);
        Checks.due("nothing is made", 0, mill.pass(1));
        Checks.due("it stays", 2, mill.about(0, 0));
        Checks.due("and is beaten on", 63, mill.about(0, 1));
        Checks.due("the pair is not worn", 0, mill.mould(0, 2));
        Checks.due("but enough for size 2", 1, mill.place(0, 0, 1));
    }

    private static void refusesToTell() {
        RagVats mill = worn();
        Checks.dueUnchanged("mould worn", mill, 5, () -> mill.mould(0, 2));
        Checks.dueUnchanged("told sheets", mill, 0, () -> mill.told(0, 3));
        Checks.refused("mould of no pair", mill, Checks.INDEX, () -> mill.mould(2, 0));
        Checks.refused("mould of pair -1", mill, Checks.INDEX, () -> mill.mould(-1, 0));
        Checks.refused("mould what 4", mill, Checks.INDEX, () -> mill.mould(0, 4));
        Checks.refused("mould what -1", mill, Checks.INDEX, () -> mill.mould(0, -1));
        Checks.refused("told of no team", mill, Checks.INDEX, () -> mill.told(1, 0));
        Checks.refused("told of team -1", mill, Checks.INDEX, () -> mill.told(-1, 0));
        Checks.refused("told what 4", mill, Checks.INDEX, () -> mill.told(0, 4));
        Checks.refused("told what -1", mill, Checks.INDEX, () -> mill.told(0, -1));
        for (int far : FAR) {
            Checks.refused("mould of " + far, mill, Checks.INDEX, () -> mill.mould(far, 0));
            Checks.refused("mould what " + far, mill, Checks.INDEX, () -> mill.mould(0, far));
            Checks.refused("told of " + far, mill, Checks.INDEX, () -> mill.told(far, 0));
            Checks.refused("told what " + far, mill, Checks.INDEX, () -> mill.told(0, far));
        }
    }
}
