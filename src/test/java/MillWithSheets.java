/** The mill that some tests begin with: sheets of the watermark 4 hang in the loft. */
final class MillWithSheets {
    private static final int[] WAITING_DAYS = {5, 3, 2};

    private MillWithSheets() {
    }

    /** 48 sheets of one grade hang in the loft, the teams are at no vat, and 40 coins are there. */
    static RagVats of(int grade) {
        RagVats mill = Checks.withWater(9);
        mill.fill(0, grade, 24);
        mill.fill(1, grade, 24);
        // With two vats each gets 13 more beat a day, so that the sheets are made
        // of fine rags at 78 and 91, of plain ones at 52 and 65, of coarse ones at 39 and 52.
        mill.pass(WAITING_DAYS[grade]);
        for (int number = 0; number < 2; number++) {
            mill.pair(4, 1);
            mill.team(12);
            mill.place(number, number, number);
        }
        mill.pass(2);
        mill.place(0, -1, 0);
        mill.place(1, -1, 1);
        Checks.due("the sheets that the test needs", 48, mill.loft(4, grade));
        return mill;
    }
}
