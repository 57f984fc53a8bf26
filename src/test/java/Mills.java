/** Mills in the states that the tests of the edges begin with, and the steps that lead there. */
final class Mills {
    private Mills() {
    }

    /** A mill on a dry river, with so many pounds in the vat 0 that have just this beat. */
    static RagVats beaten(int sort, int pounds, int beat) {
        RagVats mill = Checks.withWater(0);
        mill.fill(0, sort, pounds);
        beatTo(mill, 0, beat);
        return mill;
    }

    /** Beats the only vat with pulp to just this beat, while no team makes sheets of it; the river is dry again then. */
    static void beatTo(RagVats mill, int vat, int beat) {
        for (int turn = 0; turn < 5 && beat - mill.about(vat, 1) >= 3; turn++) {
            dayWithWater(mill, Math.min(9, (beat - mill.about(vat, 1)) / 3));
        }
        if (mill.about(vat, 1) < beat) {
            // Two vats share 3 * 1: each gets 1 more beat.
            int other = (vat + 1) % 4;
            mill.fill(other, 2, 1);
            while (mill.about(vat, 1) < beat) {
                dayWithWater(mill, 1);
            }
            mill.drain(other);
        }
        Checks.due("the beat that the test needs", beat, mill.about(vat, 1));
    }

    /** One day with this water on a river that is dry ahead of it and behind it. */
    static int dayWithWater(RagVats mill, int water) {
        int day = mill.count(0) % 7;
        mill.setWater(day, water);
        int made = mill.pass(1);
        mill.setWater(day, 0);
        return made;
    }

    /** A new team, at this vat with a new pair; answers how many sheets it would make. */
    static int addTeam(RagVats mill, int vat, int skill, int mark, int size) {
        int team = mill.team(skill);
        int pair = mill.pair(mark, size);
        return mill.place(team, vat, pair);
    }

    /** Wears a new pair by so much, with a team of skill 1 that has it, a day and a pound for each. */
    static void wear(RagVats mill, int team, int pair, int worn) {
        int left = worn;
        for (int sort = 1; left > 0; sort++) {
            int now = Math.min(40, left);
            mill.fill(1, sort, now);
            beatTo(mill, 1, 30);
            mill.place(team, 1, pair);
            Checks.due("a sheet a day", now, mill.pass(now));
            mill.place(team, -1, pair);
            left -= now;
        }
        Checks.due("the wear that the test needs", worn, mill.mould(pair, 2));
    }

    /** Five pairs of the watermark 8 and three teams of skill 12 that are at no vat, on a dry river. */
    static RagVats withTeams() {
        RagVats mill = Checks.withWater(0);
        for (int pair = 0; pair < 5; pair++) {
            mill.pair(8, 1);
        }
        for (int team = 0; team < 3; team++) {
            mill.team(12);
        }
        return mill;
    }

    /** Makes sheets of all these pounds at this beat, with three pairs from the first one on, and presses them. */
    static void makeAll(RagVats mill, int sort, int pounds, int beat, int firstPair) {
        mill.fill(0, sort, pounds);
        beatTo(mill, 0, beat);
        for (int team = 0; team < 3; team++) {
            mill.place(team, 0, (firstPair + team) % 5);
        }
        Checks.due("a sheet of each pound", pounds, mill.pass(3));
        for (int team = 0; team < 3; team++) {
            mill.place(team, -1, -1);
        }
        Checks.due("all are pressed", 0, mill.count(6));
    }

    /** A mill that has sold 5 quires of fine sheets, and has 100 coins and 60 pounds of coarse rags alone. */
    static RagVats rich() {
        RagVats mill = withTeams();
        makeAll(mill, 1, 40, 99, 0);
        makeAll(mill, 1, 20, 99, 1);
        makeAll(mill, 0, 40, 99, 2);
        makeAll(mill, 0, 20, 99, 3);
        Checks.due("all are fine", 120, mill.loft(8, 0));
        Checks.due("5 quires of fine", 60, mill.sell(8, 0, 5));
        Checks.due("the coins that the test needs", 100, mill.count(1));
        return mill;
    }

    /**
     * Posts of 12, 12 and 2 sheets are left: plain ones of the mark 9 and of the mark 8, coarse ones of the mark 7;
     * a quire hangs of fine sheets of 9, of plain ones of 8, and of coarse ones of 7. The river is dry.
     */
    static RagVats withThreePosts() {
        RagVats mill = Checks.withWater(0);
        mill.buy(3, 20);
        for (int vat = 0; vat < 3; vat++) {
            mill.fill(vat, vat, 40);
        }
        for (int day = 0; day < 7; day++) {
            dayWithWater(mill, 9);
        }
        for (int team = 0; team < 3; team++) {
            addTeam(mill, team, 12, 9 - team, 1);
        }
        Checks.due("12, 12 and 12", 36, mill.pass(1));
        Checks.due("12, 12 and 12", 36, mill.pass(1));
        Checks.due("12, 12 and 2, as the felts are full", 26, mill.pass(1));
        return mill;
    }
}
