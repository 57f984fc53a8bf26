/** "Terms", edge by edge: the sheets that a team would make, and their points. */
final class EdgesOfSheetsTest {
    public static void main(String[] args) {
        noneWithoutAVatOrAPair();
        noneOfABeatOfTwentyNine();
        noMoreThanTheSkill();
        noMoreThanTheFreeFelts();
        noneWithoutAFreeFelt();
        noMoreThanThePulpAllows();
        fineWithTwelvePoints();
        plainWithSevenPoints();
        tenthOfTheBeatIsCut();
        tenthOfTheWearIsCut();
        fewerPointsThanNoneAreCoarse();
        hangsByWatermarkAndGrade();
        Checks.end();
    }

    // "0 without a vat or a pair"
    private static void noneWithoutAVatOrAPair() {
        RagVats mill = Mills.beaten(0, 40, 99);
        Checks.due("with both", 5, Mills.addTeam(mill, 0, 5, 0, 1));
        Checks.due("without a vat", 0, mill.place(0, -1, 0));
        Checks.due("told so", 0, mill.told(0, 3));
        Checks.due("a day of it", 0, mill.pass(1));
        Checks.due("without a pair", 0, mill.place(0, 0, -1));
        Checks.due("told so", 0, mill.told(0, 3));
        Checks.due("a day of it", 0, mill.pass(1));
        Checks.due("without both", 0, mill.place(0, -1, -1));
        Checks.due("a day of it", 0, mill.pass(1));
        Checks.due("at an empty vat", 0, mill.place(0, 1, 0));
        Checks.due("a day of it", 0, mill.pass(1));
        Checks.due("with both again", 5, mill.place(0, 0, 0));
        Checks.due("told so", 5, mill.told(0, 3));
        Checks.due("a day of it", 5, mill.pass(1));
    }

    // "or if the beat of its vat is less than 30"
    private static void noneOfABeatOfTwentyNine() {
        RagVats less = Mills.beaten(0, 40, 29);
        Checks.due("29", 0, Mills.addTeam(less, 0, 5, 0, 1));
        Checks.due("told so", 0, less.told(0, 3));
        Checks.due("a day of it", 0, less.pass(1));
        Checks.due("the pulp stays", 40, less.about(0, 0));
        RagVats enough = Mills.beaten(0, 40, 30);
        Checks.due("30", 5, Mills.addTeam(enough, 0, 5, 0, 1));
        Checks.due("told so", 5, enough.told(0, 3));
        Checks.due("a day of it", 5, enough.pass(1));
    }

    // "the least of its skill, ..."
    private static void noMoreThanTheSkill() {
        for (int skill : new int[] {1, 12}) {
            RagVats mill = Mills.beaten(0, skill + 1, 30);
            Checks.due("a pound more than the skill", skill, Mills.addTeam(mill, 0, skill, 0, 1));
            Checks.due("they are made", skill, mill.pass(1));
            Checks.due("the last pound", 1, mill.pass(1));
            RagVats same = Mills.beaten(0, skill, 30);
            Checks.due("as many pounds as the skill", skill, Mills.addTeam(same, 0, skill, 0, 1));
        }
    }

    /** Three teams make 30 sheets a day, as there are felts, of two vats: 6 are left on the felts. */
    private static RagVats withSixOnTheFelts() {
        RagVats mill = Checks.withWater(0);
        mill.fill(0, 0, 40);
        mill.fill(1, 1, 40);
        for (int day = 0; day < 3; day++) {
            Mills.dayWithWater(mill, 9);
        }
        for (int team = 0; team < 3; team++) {
            Mills.addTeam(mill, (team + 1) / 2, team == 2 ? 6 : 12, team, 1);
        }
        Checks.due("the felts are full", 30, mill.pass(1));
        Checks.due("6 are left on them", 24, mill.count(3));
        return mill;
    }

    // "the felts that are free"
    private static void noMoreThanTheFreeFelts() {
        RagVats mill = Mills.beaten(0, 40, 30);
        for (int team = 0; team < 3; team++) {
            Mills.addTeam(mill, 0, team == 2 ? 7 : 12, team, 1);
        }
        Checks.due("now it would make 7", 7, mill.told(2, 3));
        Checks.due("12, 12 and the 6 that are left", 30, mill.pass(1));
        Checks.due("the third's wear", 3, mill.mould(2, 2));
        RagVats other = Mills.beaten(0, 40, 30);
        other.buy(3, 1);
        for (int team = 0; team < 3; team++) {
            Mills.addTeam(other, 0, team == 2 ? 7 : 12, team, 1);
        }
        Checks.due("with a felt more, 12, 12 and 7", 31, other.pass(1));
        Checks.due("the third's wear", 4, other.mould(2, 2));
    }

    // "the felts that are free": none
    private static void noneWithoutAFreeFelt() {
        RagVats mill = withSixOnTheFelts();
        Checks.due("12, 12 and none", 24, mill.pass(1));
        Checks.due("the third's wear", 3, mill.mould(2, 2));
        Checks.due("no post of the third", 1, mill.count(6));
        Checks.due("the second's is left", 1, mill.post(0, 0));
        Checks.due("its sheets", 6, mill.post(0, 2));
    }

    // "and the pulp of its vat / the size of its pair (cut)"
    private static void noMoreThanThePulpAllows() {
        int[][] pulpSizeSheets = {{1, 1, 1}, {1, 2, 0}, {2, 2, 1}, {3, 2, 1}, {4, 2, 2}, {2, 3, 0}, {3, 3, 1},
            {5, 3, 1}, {6, 3, 2}, {35, 3, 11}, {36, 3, 12}, {40, 3, 12}, {23, 2, 11}, {24, 2, 12}, {11, 1, 11}};
        for (int[] x : pulpSizeSheets) {
            RagVats mill = Mills.beaten(0, x[0], 30);
            Checks.due(x[0] + " pounds, size " + x[1], x[2], Mills.addTeam(mill, 0, 12, 0, x[1]));
            Checks.due("they are made", x[2], mill.pass(1));
            Checks.due("the rest of " + x[0], x[0] - x[2] * x[1], mill.about(0, 0));
        }
    }

    /** The grade of a sheet of this sort, at this beat, made with a pair that is worn by so much ahead of it. */
    private static int gradeOf(int sort, int beat, int worn) {
        RagVats mill = Checks.withWater(0);
        mill.pair(0, 1);
        mill.team(1);
        Mills.wear(mill, 0, 0, worn);
        mill.fill(0, sort, 1);
        Mills.beatTo(mill, 0, beat);
        int[] before = {mill.loft(0, 0), mill.loft(0, 1), mill.loft(0, 2)};
        int[] worth = {12, 7, 3};
        int worthBefore = mill.count(5);
        mill.place(0, 0, 0);
        Checks.due("one sheet", 1, mill.pass(1));
        for (int grade = 0; grade < 3; grade++) {
            if (mill.loft(0, grade) > before[grade]) {
                Checks.due("its worth", worth[grade], mill.count(5) - worthBefore);
                return grade;
            }
        }
        return -1;
    }

    private static void dueGrade(int want, int sort, int beat, int worn) {
        Checks.due("sort " + sort + ", beat " + beat + ", worn by " + worn, want, gradeOf(sort, beat, worn));
    }

    // "With 12 or more it is fine"; "fine, plain and coarse ... adds 6, 3 and 0 to the points of a sheet"
    private static void fineWithTwelvePoints() {
        dueGrade(1, 0, 59, 0);
        dueGrade(0, 0, 60, 0);
        dueGrade(1, 1, 89, 0);
        dueGrade(0, 1, 90, 0);
        dueGrade(0, 0, 99, 0);
        dueGrade(1, 2, 99, 0);
        dueGrade(0, 0, 99, 39);
        dueGrade(1, 0, 99, 40);
    }

    // "with 7 or more plain, with fewer coarse"
    private static void plainWithSevenPoints() {
        dueGrade(2, 1, 39, 0);
        dueGrade(1, 1, 40, 0);
        dueGrade(2, 2, 69, 0);
        dueGrade(1, 2, 70, 0);
        dueGrade(1, 0, 30, 0);
        dueGrade(1, 0, 30, 29);
        dueGrade(2, 0, 30, 30);
        dueGrade(2, 0, 39, 30);
        dueGrade(1, 0, 40, 30);
    }

    // "a tenth (cut) of the beat of the vat"
    private static void tenthOfTheBeatIsCut() {
        dueGrade(1, 0, 50, 0);
        dueGrade(1, 0, 55, 0);
        dueGrade(2, 2, 65, 0);
        dueGrade(1, 0, 69, 10);
        dueGrade(0, 0, 70, 10);
    }

    // "less by a tenth (cut) of what the pair is worn by"
    private static void tenthOfTheWearIsCut() {
        dueGrade(0, 0, 60, 1);
        dueGrade(0, 0, 60, 5);
        dueGrade(0, 0, 60, 9);
        dueGrade(1, 0, 60, 10);
        dueGrade(0, 0, 70, 19);
        dueGrade(1, 0, 70, 20);
        dueGrade(1, 2, 99, 29);
        dueGrade(2, 2, 99, 30);
        dueGrade(1, 0, 65, 50);
        dueGrade(2, 0, 59, 50);
    }

    // "with fewer coarse": 3 + 0 - 5
    private static void fewerPointsThanNoneAreCoarse() {
        dueGrade(2, 2, 30, 50);
        dueGrade(2, 2, 39, 40);
    }

    // "Behind the press sheets hang in the loft, by watermark and grade."
    private static void hangsByWatermarkAndGrade() {
        int[] beats = {60, 30, 30};
        int[] sorts = {0, 1, 2};
        int[] grades = {0, 2, 2};
        for (int mark = 0; mark < 10; mark++) {
            int turn = mark % 3;
            RagVats mill = Mills.beaten(sorts[turn], 2, beats[turn]);
            Mills.addTeam(mill, 0, 2, mark, 1);
            mill.pass(1);
            for (int i = 0; i < 30; i++) {
                int due = i == mark * 3 + grades[turn] ? 2 : 0;
                Checks.due("of the mark " + mark + ", loft at " + i, due, mill.loft(i / 3, i % 3));
            }
        }
    }
}
