/** Promises 2 and 3, edge by edge: each method has the sentence that it tests ahead of it. */
final class EdgesOfTradeTest {
    private static final int[] PRICES = {3, 2, 1, 2};

    public static void main(String[] args) {
        wareMinusOneAndFourAreNone();
        wareOneIsNotTheOther();
        manyOneIsAllowedAndNoughtIsNot();
        manyNinetyNineIsAllowedAndHundredIsNot();
        coinsForItAreEnoughAndOneFewerAreNot();
        feltsUpToTheDearest();
        firstNamedOfBuy();
        markTenAndGradeThreeAreNone();
        quiresNoughtAndTenAreNone();
        nineQuiresOfJustEnoughSheets();
        quireOfTwentyFourSheets();
        eachGradeHasItsWorth();
        firstNamedOfSell();
        Checks.end();
    }

    // "if what is not 0 to 3"
    private static void wareMinusOneAndFourAreNone() {
        RagVats mill = new RagVats();
        Checks.refused("buy -1", mill, Checks.INDEX, () -> mill.buy(-1, 1));
        Checks.refused("buy 4", mill, Checks.INDEX, () -> mill.buy(4, 1));
        Checks.due("buy 0", 61, mill.buy(0, 1));
        Checks.due("buy 3", 31, mill.buy(3, 1));
    }

    // "0 to 2 a sort of rags, 3 felts", "Returns how many of these there are then (of felts: all, free or not)"
    private static void wareOneIsNotTheOther() {
        int[] counts = {9, 10, 11, 2};
        for (int ware = 0; ware < 4; ware++) {
            RagVats mill = new RagVats();
            Checks.due("bought", ware == 3 ? 31 : 61, mill.buy(ware, 1));
            for (int other = 0; other < 4; other++) {
                int first = other == 3 ? 30 : 60;
                Checks.due("ware " + other, other == ware ? first + 1 : first, mill.count(counts[other]));
            }
            Checks.due("its price", 40 - PRICES[ware], mill.count(1));
        }
        RagVats busy = Mills.beaten(0, 40, 60);
        for (int team = 0; team < 3; team++) {
            Mills.addTeam(busy, 0, 10, team, 1);
        }
        busy.pass(1);
        Checks.due("6 felts have sheets on them", 24, busy.count(3));
        Checks.due("all are told, not the free ones alone", 31, busy.buy(3, 1));
        Checks.due("the new one is free", 25, busy.count(3));
    }

    // "if many is not 1 to 99"
    private static void manyOneIsAllowedAndNoughtIsNot() {
        for (int ware = 0; ware < 4; ware++) {
            int what = ware;
            RagVats mill = new RagVats();
            Checks.refused("buy 0 of " + ware, mill, Checks.ARGUMENT, () -> mill.buy(what, 0));
            Checks.refused("buy -1 of " + ware, mill, Checks.ARGUMENT, () -> mill.buy(what, -1));
            Checks.due("buy 1 of " + ware, ware == 3 ? 31 : 61, mill.buy(what, 1));
        }
    }

    // "if many is not 1 to 99": with coins enough for 100
    private static void manyNinetyNineIsAllowedAndHundredIsNot() {
        RagVats mill = Mills.rich();
        Checks.refused("100 coarse for 100 coins", mill, Checks.ARGUMENT, () -> mill.buy(2, 100));
        Checks.due("99 coarse", 159, mill.buy(2, 99));
        Checks.due("a coin is left", 1, mill.count(1));
        Checks.due("and buys one more", 160, mill.buy(2, 1));
    }

    // "if the mill has fewer coins than they cost"
    private static void coinsForItAreEnoughAndOneFewerAreNot() {
        int[] dear = {13, 20, 40, 20};
        for (int ware = 0; ware < 4; ware++) {
            int what = ware;
            int many = dear[ware];
            int cost = many * PRICES[ware];
            RagVats mill = new RagVats();
            if (cost < 40) {
                mill.buy(2, 40 - cost);
            }
            Checks.due("just the coins for it", cost, mill.count(1));
            Checks.refused("one more of " + ware, mill, Checks.STATE, () -> mill.buy(what, many + 1));
            Checks.due("buy " + ware, (ware == 3 ? 30 : 60) + many, mill.buy(what, many));
            Checks.due("no coin is left", 0, mill.count(1));
            Checks.refused("one more of " + ware + " for nothing", mill, Checks.STATE, () -> mill.buy(what, 1));
            RagVats poorer = new RagVats();
            poorer.buy(2, 41 - cost);
            Checks.refused("a coin too few for " + ware, poorer, Checks.STATE, () -> poorer.buy(what, many));
        }
    }

    // "or there would be more than 90 felts": 87 are the most that a mill ever can pay
    private static void feltsUpToTheDearest() {
        RagVats mill = Mills.rich();
        Mills.makeAll(mill, 2, 40, 99, 3);
        Mills.makeAll(mill, 2, 20, 99, 4);
        Checks.due("two quires of plain", 14, mill.sell(8, 1, 2));
        Checks.due("the most coins that there can be", 114, mill.count(1));
        Checks.refused("91 felts", mill, Checks.STATE, () -> mill.buy(3, 61));
        Checks.refused("90 felts are too dear", mill, Checks.STATE, () -> mill.buy(3, 60));
        Checks.refused("88 felts are too dear", mill, Checks.STATE, () -> mill.buy(3, 58));
        Checks.due("87 felts", 87, mill.buy(3, 57));
        Checks.due("all of them are free", 87, mill.count(3));
        Checks.refused("no coins for another", mill, Checks.STATE, () -> mill.buy(3, 1));
    }

    // "If several exceptions apply, the one that is named first is thrown."
    private static void firstNamedOfBuy() {
        RagVats mill = new RagVats();
        mill.buy(2, 40);
        Checks.refused("no ware, not many", mill, Checks.INDEX, () -> mill.buy(4, 0));
        Checks.refused("no ware, too many, no coins", mill, Checks.INDEX, () -> mill.buy(-1, 100));
        Checks.refused("no ware, no coins", mill, Checks.INDEX, () -> mill.buy(4, 1));
        Checks.refused("too many, no coins", mill, Checks.ARGUMENT, () -> mill.buy(0, 100));
        Checks.refused("too many felts, no coins", mill, Checks.ARGUMENT, () -> mill.buy(3, 100));
        Checks.refused("no coins", mill, Checks.STATE, () -> mill.buy(3, 99));
    }

    /** 24 sheets of the watermark and of grade 1 hang in the loft, and no others. */
    private static RagVats withQuire(int mark) {
        RagVats mill = Mills.beaten(0, 24, 30);
        Mills.addTeam(mill, 0, 12, mark, 1);
        mill.pass(2);
        Checks.due("a quire", 24, mill.loft(mark, 1));
        return mill;
    }

    // "if mark is not 0 to 9, or grade is not 0 to 2"
    private static void markTenAndGradeThreeAreNone() {
        for (int mark = 0; mark < 10; mark += 9) {
            RagVats mill = withQuire(mark);
            Checks.refused("mark -1", mill, Checks.INDEX, () -> mill.sell(-1, 1, 1));
            Checks.refused("mark 10", mill, Checks.INDEX, () -> mill.sell(10, 1, 1));
            int there = mark;
            Checks.refused("grade -1", mill, Checks.INDEX, () -> mill.sell(there, -1, 1));
            Checks.refused("grade 3", mill, Checks.INDEX, () -> mill.sell(there, 3, 1));
            Checks.refused("none of fine", mill, Checks.STATE, () -> mill.sell(there, 0, 1));
            Checks.refused("none of coarse", mill, Checks.STATE, () -> mill.sell(there, 2, 1));
            Checks.refused("none of the mark at the other end", mill, Checks.STATE, () -> mill.sell(9 - there, 1, 1));
            Checks.due("mark " + mark, 7, mill.sell(mark, 1, 1));
        }
    }

    // "if quires is not 1 to 9"
    private static void quiresNoughtAndTenAreNone() {
        RagVats mill = withQuire(5);
        Checks.refused("0 quires", mill, Checks.ARGUMENT, () -> mill.sell(5, 1, 0));
        Checks.refused("-1 quires", mill, Checks.ARGUMENT, () -> mill.sell(5, 1, -1));
        Checks.refused("10 quires", mill, Checks.ARGUMENT, () -> mill.sell(5, 1, 10));
        Checks.refused("9 quires are too many of these", mill, Checks.STATE, () -> mill.sell(5, 1, 9));
        Checks.due("1 quire", 7, mill.sell(5, 1, 1));
    }

    // "if quires is not 1 to 9", "if there are fewer of these sheets in the loft"
    private static void nineQuiresOfJustEnoughSheets() {
        RagVats mill = Mills.withTeams();
        mill.buy(2, 36);
        Mills.makeAll(mill, 2, 40, 99, 0);
        Mills.makeAll(mill, 2, 40, 99, 0);
        Mills.makeAll(mill, 2, 11, 99, 0);
        Mills.makeAll(mill, 0, 40, 51, 2);
        Mills.makeAll(mill, 0, 20, 51, 2);
        Mills.makeAll(mill, 1, 40, 81, 3);
        Mills.makeAll(mill, 1, 20, 81, 3);
        Mills.makeAll(mill, 2, 4, 99, 4);
        Checks.due("215 sheets of plain", 215, mill.loft(8, 1));
        Checks.refused("9 quires of 215 sheets", mill, Checks.STATE, () -> mill.sell(8, 1, 9));
        Mills.makeAll(mill, 2, 1, 99, 4);
        Checks.refused("10 quires", mill, Checks.ARGUMENT, () -> mill.sell(8, 1, 10));
        Checks.due("9 quires of 216 sheets", 63, mill.sell(8, 1, 9));
        Checks.due("none is left", 0, mill.loft(8, 1));
        Checks.due("4 coins and 63", 67, mill.count(1));
        Checks.due("what was made is still told", 216, mill.count(4));
    }

    // "quires ..., of 24 sheets each", "if there are fewer of these sheets in the loft"
    private static void quireOfTwentyFourSheets() {
        RagVats mill = Mills.beaten(0, 40, 30);
        Mills.addTeam(mill, 0, 12, 3, 1);
        mill.pass(1);
        mill.place(0, -1, 0);
        mill.team(11);
        mill.pair(3, 1);
        mill.place(1, 0, 1);
        mill.pass(1);
        Checks.due("23 sheets", 23, mill.loft(3, 1));
        Checks.refused("a quire of 23", mill, Checks.STATE, () -> mill.sell(3, 1, 1));
        mill.place(1, -1, -1);
        mill.team(1);
        mill.place(2, 0, 1);
        mill.pass(1);
        Checks.refused("two quires of 24", mill, Checks.STATE, () -> mill.sell(3, 1, 2));
        Checks.due("a quire of 24", 7, mill.sell(3, 1, 1));
        Checks.due("none is left", 0, mill.count(7));
        Checks.refused("a quire of none", mill, Checks.STATE, () -> mill.sell(3, 1, 1));
        mill.pass(1);
        Checks.due("one hangs again", 1, mill.loft(3, 1));
    }

    // "for as many coins a quire as one of its sheets is worth"; "A fine sheet is worth 12, a plain one 7, a coarse one 3."
    private static void eachGradeHasItsWorth() {
        int[] worth = {12, 7, 3};
        int[] beats = {60, 40, 30};
        for (int grade = 0; grade < 3; grade++) {
            RagVats mill = Mills.beaten(grade, 24, beats[grade]);
            Mills.addTeam(mill, 0, 12, 0, 1);
            mill.pass(2);
            Checks.due("24 of the grade " + grade, 24, mill.loft(0, grade));
            Checks.due("what they were worth", 24 * worth[grade], mill.count(5));
            Checks.due("sold", worth[grade], mill.sell(0, grade, 1));
            Checks.due("the coins", 40 + worth[grade], mill.count(1));
        }
    }

    private static void firstNamedOfSell() {
        RagVats mill = withQuire(5);
        Checks.refused("no mark, no quires, too few", mill, Checks.INDEX, () -> mill.sell(10, 1, 10));
        Checks.refused("no mark, 0 quires", mill, Checks.INDEX, () -> mill.sell(-1, 1, 0));
        Checks.refused("no grade, 0 quires", mill, Checks.INDEX, () -> mill.sell(5, 3, 0));
        Checks.refused("no grade, 10 quires", mill, Checks.INDEX, () -> mill.sell(5, -1, 10));
        Checks.refused("no grade, too few", mill, Checks.INDEX, () -> mill.sell(4, 3, 9));
        Checks.refused("10 quires, too few", mill, Checks.ARGUMENT, () -> mill.sell(4, 1, 10));
        Checks.refused("0 quires of none", mill, Checks.ARGUMENT, () -> mill.sell(4, 1, 0));
        Checks.refused("too few", mill, Checks.STATE, () -> mill.sell(4, 1, 1));
    }
}
