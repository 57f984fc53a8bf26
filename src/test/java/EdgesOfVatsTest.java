/** Promises 1, 4, 5, 10 and 11, edge by edge: each method has the sentence that it tests ahead of it. */
final class EdgesOfVatsTest {
    public static void main(String[] args) {
        beginsOnDayNoughtWithNothing();
        vatMinusOneAndFourAreNone();
        sortMinusOneAndThreeAreNone();
        poundsNoughtAndFortyOneAreNone();
        onlyAnEmptyVatIsFilled();
        poundsThatAreLeftCanBeFilled();
        filledVatBeginsWithABeatOfNought();
        firstNamedOfFill();
        drainsAnyPulpButNone();
        drainedVatIsEmpty();
        refusesToDrainNoVat();
        dayMinusOneAndSevenAreNone();
        waterMinusOneAndTenAreNone();
        waterIsThatFromNowOn();
        firstNamedOfSetWater();
        tellsOfNoOtherVat();
        tellsNoOtherKind();
        Checks.end();
    }

    // "Creates a mill with empty vats, without moulds and teams, on the day 0."
    private static void beginsOnDayNoughtWithNothing() {
        RagVats mill = new RagVats();
        Checks.due("the day", 0, mill.count(0));
        for (int vat = 0; vat < 4; vat++) {
            int which = vat;
            Checks.refused("an empty vat", mill, Checks.STATE, () -> mill.drain(which));
        }
        Checks.refused("no pair", mill, Checks.INDEX, () -> mill.wire(0));
        Checks.refused("no team", mill, Checks.INDEX, () -> mill.place(0, -1, -1));
        Checks.refused("no post", mill, Checks.INDEX, () -> mill.post(0, 2));
        Checks.due("the first pair", 0, mill.pair(0, 1));
        Checks.due("the first team", 0, mill.team(1));
    }

    // "There are 4, 0 to 3"; "if there is no such vat, or rag is not 0 to 2"
    private static void vatMinusOneAndFourAreNone() {
        RagVats mill = new RagVats();
        Checks.refused("fill -1", mill, Checks.INDEX, () -> mill.fill(-1, 0, 1));
        Checks.refused("fill 4", mill, Checks.INDEX, () -> mill.fill(4, 0, 1));
        Checks.due("fill 0", 59, mill.fill(0, 0, 1));
        Checks.due("fill 3", 58, mill.fill(3, 0, 1));
        Checks.due("the vat 0 has it", 1, mill.about(0, 0));
        Checks.due("the vat 3 has it", 1, mill.about(3, 0));
        Checks.due("the vat 1 has none", 0, mill.about(1, 0));
        Checks.due("the vat 2 has none", 0, mill.about(2, 0));
    }

    // "if there is no such vat, or rag is not 0 to 2"
    private static void sortMinusOneAndThreeAreNone() {
        RagVats mill = new RagVats();
        Checks.refused("sort -1", mill, Checks.INDEX, () -> mill.fill(0, -1, 1));
        Checks.refused("sort 3", mill, Checks.INDEX, () -> mill.fill(0, 3, 1));
        Checks.due("sort 0", 59, mill.fill(0, 0, 1));
        Checks.due("sort 2", 59, mill.fill(2, 2, 1));
        Checks.due("it is fine", 0, mill.about(0, 2));
        Checks.due("it is coarse", 2, mill.about(2, 2));
        Checks.due("no plain rags are gone", 60, mill.count(10));
    }

    // "if pounds is not 1 to 40"; "each holds pulp, 0 (empty, at first) to 40 pounds"
    private static void poundsNoughtAndFortyOneAreNone() {
        RagVats mill = new RagVats();
        Checks.refused("0 pounds", mill, Checks.ARGUMENT, () -> mill.fill(0, 0, 0));
        Checks.refused("-1 pounds", mill, Checks.ARGUMENT, () -> mill.fill(0, 0, -1));
        Checks.refused("41 pounds", mill, Checks.ARGUMENT, () -> mill.fill(0, 0, 41));
        Checks.due("1 pound", 59, mill.fill(0, 0, 1));
        Checks.due("40 pounds", 19, mill.fill(1, 0, 40));
        Checks.due("they are in it", 40, mill.about(1, 0));
    }

    // "if the vat is not empty"
    private static void onlyAnEmptyVatIsFilled() {
        RagVats mill = new RagVats();
        mill.fill(0, 0, 1);
        for (int sort = 0; sort < 3; sort++) {
            int rag = sort;
            Checks.refused("1 to a pound", mill, Checks.STATE, () -> mill.fill(0, rag, 1));
            Checks.refused("39 to a pound", mill, Checks.STATE, () -> mill.fill(0, rag, 39));
        }
        mill.drain(0);
        Checks.due("drained, it is empty", 20, mill.fill(0, 1, 40));
        RagVats made = Mills.beaten(0, 5, 30);
        Mills.addTeam(made, 0, 2, 0, 2);
        made.pass(1);
        Checks.due("a pound stays", 1, made.about(0, 0));
        Checks.refused("a pound stays", made, Checks.STATE, () -> made.fill(0, 0, 1));
        made.drain(0);
        made.fill(0, 0, 4);
        Mills.dayWithWater(made, 9);
        Checks.due("all become sheets", 2, Mills.dayWithWater(made, 9));
        Checks.due("emptied by a team, it is empty", 50, made.fill(0, 0, 1));
    }

    // "or there are fewer pounds"; "Returns the pounds of this sort that are left."
    private static void poundsThatAreLeftCanBeFilled() {
        for (int sort = 0; sort < 3; sort++) {
            int rag = sort;
            RagVats mill = new RagVats();
            mill.fill(0, sort, 40);
            Checks.refused("21 of 20", mill, Checks.STATE, () -> mill.fill(1, rag, 21));
            Checks.due("19 of 20", 1, mill.fill(1, sort, 19));
            Checks.refused("2 of 1", mill, Checks.STATE, () -> mill.fill(2, rag, 2));
            Checks.due("1 of 1", 0, mill.fill(2, sort, 1));
            Checks.refused("1 of none", mill, Checks.STATE, () -> mill.fill(3, rag, 1));
            mill.buy(sort, 1);
            Checks.due("one was bought", 0, mill.fill(3, sort, 1));
        }
    }

    // "Fills an empty vat with rags, with a beat of 0."
    private static void filledVatBeginsWithABeatOfNought() {
        RagVats mill = Mills.beaten(0, 1, 99);
        mill.drain(0);
        mill.fill(0, 1, 1);
        Checks.due("behind 99", 0, mill.about(0, 1));
        mill.setWater(mill.count(0) % 7, 1);
        mill.pass(1);
        Checks.due("beaten from 0", 3, mill.about(0, 1));
    }

    private static void firstNamedOfFill() {
        RagVats mill = new RagVats();
        mill.fill(0, 0, 40);
        mill.fill(1, 0, 20);
        Checks.refused("no vat, 0 pounds", mill, Checks.INDEX, () -> mill.fill(4, 0, 0));
        Checks.refused("no vat, no pounds are left", mill, Checks.INDEX, () -> mill.fill(-1, 0, 1));
        Checks.refused("no sort, 41 pounds", mill, Checks.INDEX, () -> mill.fill(2, 3, 41));
        Checks.refused("no sort, a full vat", mill, Checks.INDEX, () -> mill.fill(0, -1, 1));
        Checks.refused("no sort, 0 pounds, a full vat", mill, Checks.INDEX, () -> mill.fill(0, 3, 0));
        Checks.refused("0 pounds, a full vat", mill, Checks.ARGUMENT, () -> mill.fill(0, 0, 0));
        Checks.refused("41 pounds, a full vat", mill, Checks.ARGUMENT, () -> mill.fill(0, 1, 41));
        Checks.refused("41 pounds, none are left", mill, Checks.ARGUMENT, () -> mill.fill(2, 0, 41));
        Checks.refused("a full vat, none are left", mill, Checks.STATE, () -> mill.fill(0, 0, 1));
    }

    // "Returns the pulp that it had."; "if it is empty"
    private static void drainsAnyPulpButNone() {
        for (int vat = 0; vat < 4; vat++) {
            int which = vat;
            RagVats mill = new RagVats();
            Checks.refused("empty at first", mill, Checks.STATE, () -> mill.drain(which));
            mill.fill(vat, 0, 1);
            Checks.due("1 pound", 1, mill.drain(vat));
            Checks.refused("empty then", mill, Checks.STATE, () -> mill.drain(which));
            mill.fill(vat, 1, 40);
            Checks.due("40 pounds", 40, mill.drain(vat));
            Checks.refused("empty again", mill, Checks.STATE, () -> mill.drain(which));
        }
        RagVats made = Mills.beaten(0, 4, 30);
        Mills.addTeam(made, 0, 2, 0, 2);
        made.pass(1);
        Checks.refused("emptied by a team", made, Checks.STATE, () -> made.drain(0));
    }

    // "A vat whose pulp is 0 is empty: it has no sort (-1), and a beat of 0."
    private static void drainedVatIsEmpty() {
        RagVats mill = Mills.beaten(2, 40, 99);
        mill.drain(0);
        int[] due = {0, 0, -1};
        for (int what = 0; what < 3; what++) {
            Checks.due("drained " + what, due[what], mill.about(0, what));
        }
        RagVats made = Mills.beaten(2, 6, 99);
        Mills.addTeam(made, 0, 2, 0, 3);
        made.pass(1);
        for (int what = 0; what < 3; what++) {
            Checks.due("emptied by a team " + what, due[what], made.about(0, what));
        }
    }

    // "if there is no such vat"
    private static void refusesToDrainNoVat() {
        RagVats mill = new RagVats();
        for (int vat = 0; vat < 4; vat++) {
            mill.fill(vat, 0, 1);
        }
        Checks.refused("drain -1", mill, Checks.INDEX, () -> mill.drain(-1));
        Checks.refused("drain 4", mill, Checks.INDEX, () -> mill.drain(4));
        Checks.due("drain 0", 1, mill.drain(0));
        Checks.due("drain 3", 1, mill.drain(3));
        Checks.due("two are left", 2, mill.count(8));
    }

    // "if day is not 0 to 6"
    private static void dayMinusOneAndSevenAreNone() {
        RagVats mill = new RagVats();
        Checks.refused("day -1", mill, Checks.INDEX, () -> mill.setWater(-1, 4));
        Checks.refused("day 7", mill, Checks.INDEX, () -> mill.setWater(7, 4));
        Checks.due("day 0", 4, mill.setWater(0, 1));
        Checks.due("day 6", 4, mill.setWater(6, 2));
        Checks.due("day 0 then", 1, mill.setWater(0, 1));
        Checks.due("day 6 then", 2, mill.setWater(6, 2));
        Checks.due("day 1 is as at first", 4, mill.setWater(1, 4));
        Checks.due("day 5 is as at first", 4, mill.setWater(5, 4));
    }

    // "if water is not 0 to 9"
    private static void waterMinusOneAndTenAreNone() {
        RagVats mill = new RagVats();
        Checks.refused("water -1", mill, Checks.ARGUMENT, () -> mill.setWater(0, -1));
        Checks.refused("water 10", mill, Checks.ARGUMENT, () -> mill.setWater(0, 10));
        Checks.due("water 0", 4, mill.setWater(0, 0));
        Checks.due("water 9", 0, mill.setWater(0, 9));
        Checks.due("it was 9", 9, mill.setWater(0, 4));
    }

    // "the water of the river on it from now on"
    private static void waterIsThatFromNowOn() {
        RagVats mill = Checks.withWater(0);
        mill.fill(0, 0, 1);
        mill.pass(3);
        mill.setWater(2, 5);
        mill.setWater(3, 1);
        mill.pass(1);
        Checks.due("this day has its new water", 3, mill.about(0, 1));
        mill.pass(5);
        Checks.due("a day that is over has it in the next week", 3, mill.about(0, 1));
        mill.pass(1);
        Checks.due("the day 9 is a day 2", 18, mill.about(0, 1));
        mill.setWater(2, 0);
        Checks.due("what was beaten stays", 18, mill.about(0, 1));
    }

    private static void firstNamedOfSetWater() {
        RagVats mill = new RagVats();
        Checks.refused("day 7, water 10", mill, Checks.INDEX, () -> mill.setWater(7, 10));
        Checks.refused("day -1, water -1", mill, Checks.INDEX, () -> mill.setWater(-1, -1));
        Checks.refused("day 6, water 10", mill, Checks.ARGUMENT, () -> mill.setWater(6, 10));
    }

    // "if there is no such vat, or what is not 0 to 2"
    private static void tellsOfNoOtherVat() {
        RagVats mill = new RagVats();
        mill.fill(0, 1, 7);
        mill.fill(3, 2, 9);
        for (int what = 0; what < 3; what++) {
            int kind = what;
            Checks.refused("vat -1", mill, Checks.INDEX, () -> mill.about(-1, kind));
            Checks.refused("vat 4", mill, Checks.INDEX, () -> mill.about(4, kind));
        }
        Checks.dueUnchanged("vat 0", mill, 7, () -> mill.about(0, 0));
        Checks.dueUnchanged("vat 3", mill, 9, () -> mill.about(3, 0));
    }

    // "0 its pulp, 1 its beat, 2 its sort of rags, -1 if it is empty"
    private static void tellsNoOtherKind() {
        RagVats mill = Mills.beaten(1, 7, 10);
        int[] due = {7, 10, 1};
        int[] empty = {0, 0, -1};
        for (int what = 0; what < 3; what++) {
            int kind = what;
            Checks.dueUnchanged("about " + what, mill, due[what], () -> mill.about(0, kind));
            Checks.dueUnchanged("an empty vat", mill, empty[what], () -> mill.about(1, kind));
        }
        for (int vat = 0; vat < 2; vat++) {
            int which = vat;
            Checks.refused("what -1", mill, Checks.INDEX, () -> mill.about(which, -1));
            Checks.refused("what 3", mill, Checks.INDEX, () -> mill.about(which, 3));
        }
    }
}
