/** Promises 2 and 3: buy and sell. */
final class TradeTest {
    public static void main(String[] args) {
        buysEachWareAtItsPrice();
        buysUpToTheLastCoin();
        refusesToBuy();
        refusesMoreThanNinetyFelts();
        sells();
        refusesToSell();
        Checks.end();
    }

    private static void buysEachWareAtItsPrice() {
        RagVats mill = new RagVats();
        Checks.due("buy fine", 62, mill.buy(0, 2));
        Checks.due("fine cost 3", 34, mill.count(1));
        Checks.due("buy plain", 65, mill.buy(1, 5));
        Checks.due("plain cost 2", 24, mill.count(1));
        Checks.due("buy coarse", 67, mill.buy(2, 7));
        Checks.due("coarse cost 1", 17, mill.count(1));
        Checks.due("buy felts", 34, mill.buy(3, 4));
        Checks.due("felts cost 2", 9, mill.count(1));
        Checks.due("fine then", 62, mill.count(9));
        Checks.due("plain then", 65, mill.count(10));
        Checks.due("coarse then", 67, mill.count(11));
        Checks.due("felts then", 34, mill.count(2));
        Checks.due("free felts then", 34, mill.count(3));
    }

    private static void buysUpToTheLastCoin() {
        RagVats mill = new RagVats();
        Checks.refused("41 coarse for 40 coins", mill, Checks.STATE, () -> mill.buy(2, 41));
        Checks.due("40 coarse for 40 coins", 100, mill.buy(2, 40));
        Checks.due("no coins are left", 0, mill.count(1));
        for (int what = 0; what < 4; what++) {
            int ware = what;
            Checks.refused("buy without coins", mill, Checks.STATE, () -> mill.buy(ware, 1));
        }
        RagVats felts = new RagVats();
        Checks.refused("21 felts for 40 coins", felts, Checks.STATE, () -> felts.buy(3, 21));
        Checks.due("20 felts for 40 coins", 50, felts.buy(3, 20));
        RagVats fine = new RagVats();
        Checks.refused("14 fine for 40 coins", fine, Checks.STATE, () -> fine.buy(0, 14));
        Checks.due("13 fine for 40 coins", 73, fine.buy(0, 13));
        RagVats plain = new RagVats();
        Checks.refused("21 plain for 40 coins", plain, Checks.STATE, () -> plain.buy(1, 21));
        Checks.due("20 plain for 40 coins", 80, plain.buy(1, 20));
    }

    private static void refusesToBuy() {
        RagVats mill = new RagVats();
        int[] noWares = {-1, 4, Integer.MIN_VALUE, Integer.MAX_VALUE};
        int[] notMany = {0, -1, 100, Integer.MIN_VALUE, Integer.MAX_VALUE};
        for (int ware : noWares) {
            Checks.refused("buy ware " + ware, mill, Checks.INDEX, () -> mill.buy(ware, 1));
            for (int many : notMany) {
                Checks.refused("buy ware " + ware + ", many " + many, mill, Checks.INDEX, () -> mill.buy(ware, many));
            }
        }
        for (int ware = 0; ware < 4; ware++) {
            int what = ware;
            for (int many : notMany) {
                Checks.refused("buy many " + many, mill, Checks.ARGUMENT, () -> mill.buy(what, many));
            }
            Checks.refused("99 are allowed, but too dear", mill, Checks.STATE, () -> mill.buy(what, 99));
        }
    }

    // 60 felts more cost 120 coins, and a mill never has so many (its rags bring at most 74 to the first 40):
    // that there are more than 90 felts can be asked for, but it never is the only reason.
    private static void refusesMoreThanNinetyFelts() {
        RagVats mill = new RagVats();
        Checks.refused("91 felts", mill, Checks.STATE, () -> mill.buy(3, 61));
        Checks.refused("90 felts, too dear", mill, Checks.STATE, () -> mill.buy(3, 60));
    }

    private static void sells() {
        RagVats fine = MillWithSheets.of(0);
        Checks.due("fine in the loft", 48, fine.loft(4, 0));
        Checks.due("sell two quires of fine", 24, fine.sell(4, 0, 2));
        Checks.due("none is left", 0, fine.loft(4, 0));
        Checks.due("the coins came in", 64, fine.count(1));
        RagVats plain = MillWithSheets.of(1);
        Checks.due("sell one quire of plain", 7, plain.sell(4, 1, 1));
        Checks.due("half is left", 24, plain.loft(4, 1));
        Checks.due("the coins came in", 47, plain.count(1));
        Checks.due("what was made stays counted", 48, plain.count(4));
        Checks.due("the loft is less", 24, plain.count(7));
        RagVats coarse = MillWithSheets.of(2);
        Checks.due("sell one quire of coarse", 3, coarse.sell(4, 2, 1));
        Checks.due("sell the other", 3, coarse.sell(4, 2, 1));
        Checks.due("the coins came in", 46, coarse.count(1));
    }

    private static void refusesToSell() {
        RagVats mill = MillWithSheets.of(0);
        int[] noMarks = {-1, 10, Integer.MIN_VALUE, Integer.MAX_VALUE};
        for (int mark : noMarks) {
            Checks.refused("sell mark " + mark, mill, Checks.INDEX, () -> mill.sell(mark, 0, 1));
            Checks.refused("sell mark and quires", mill, Checks.INDEX, () -> mill.sell(mark, 0, 0));
        }
        int[] noGrades = {-1, 3, Integer.MIN_VALUE, Integer.MAX_VALUE};
        for (int grade : noGrades) {
            Checks.refused("sell grade " + grade, mill, Checks.INDEX, () -> mill.sell(4, grade, 1));
            Checks.refused("sell grade and quires", mill, Checks.INDEX, () -> mill.sell(4, grade, 10));
        }
        int[] noQuires = {0, -1, 10, Integer.MIN_VALUE, Integer.MAX_VALUE};
        for (int quires : noQuires) {
            Checks.refused("sell quires " + quires, mill, Checks.ARGUMENT, () -> mill.sell(4, 0, quires));
            Checks.refused("sell quires of none", mill, Checks.ARGUMENT, () -> mill.sell(0, 2, quires));
        }
        Checks.refused("sell more than there are", mill, Checks.STATE, () -> mill.sell(4, 0, 3));
        Checks.refused("sell nine quires", mill, Checks.STATE, () -> mill.sell(4, 0, 9));
        Checks.refused("sell another grade", mill, Checks.STATE, () -> mill.sell(4, 1, 1));
        Checks.refused("sell another mark", mill, Checks.STATE, () -> mill.sell(3, 0, 1));
        mill.sell(4, 0, 1);
        mill.sell(4, 0, 1);
        Checks.refused("sell out of an empty loft", mill, Checks.STATE, () -> mill.sell(4, 0, 1));
        refusesTwentyThreeSheets();
    }

    private static void refusesTwentyThreeSheets() {
        RagVats mill = Checks.withWater(0);
        mill.fill(0, 1, 24);
        Checks.beatTo(mill, 0, 30);
        mill.pair(9, 1);
        mill.pair(9, 1);
        mill.team(12);
        mill.team(11);
        mill.place(0, 0, 0);
        mill.place(1, 0, 1);
        Checks.due("23 sheets are made", 23, mill.pass(1));
        Checks.due("23 sheets hang", 23, mill.loft(9, 2));
        Checks.refused("a quire of 23 sheets", mill, Checks.STATE, () -> mill.sell(9, 2, 1));
        mill.pass(1);
        Checks.due("24 sheets hang", 24, mill.loft(9, 2));
        Checks.due("a quire of 24 sheets", 3, mill.sell(9, 2, 1));
    }
}
