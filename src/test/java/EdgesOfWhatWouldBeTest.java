import java.math.BigInteger;

/** Promises 18 to 22, edge by edge: each method has the sentence that it tests ahead of it. */
final class EdgesOfWhatWouldBeTest {
    public static void main(String[] args) {
        ripeOfNoOtherVat();
        ripeBeatOneAndNinetyNine();
        ripeNow();
        ripeBehindSixtyDaysAndNotSixtyOne();
        ripeNeverOfAnEmptyVat();
        ripeLooksBehindWholeDays();
        firstNamedOfRipe();
        foreseesOneDayAndForty();
        foreseesNoOtherKind();
        firstNamedOfForesee();
        foreseeBeginsWhereTheMillIs();
        advisesNoOtherTeam();
        advisesNoneWithoutAPair();
        advisesEachOfTheFourVats();
        advisesTheSmallestOfSeveral();
        advisesBehindTheBeating();
        advisesForAllTeams();
        meanOfNonePairIsNought();
        meanOfAllPairs();
        digestOfANewMill();
        digestOfAFullMill();
        Checks.end();
    }

    private static void dueRipe(RagVats mill, int vat, int beat, int want) {
        Checks.dueUnchanged("ripe " + vat + " " + beat, mill, want, () -> mill.ripe(vat, beat));
    }

    // "if there is no such vat"
    private static void ripeOfNoOtherVat() {
        RagVats mill = Checks.withWater(4);
        mill.fill(0, 0, 1);
        mill.fill(3, 0, 1);
        Checks.refused("vat -1", mill, Checks.INDEX, () -> mill.ripe(-1, 1));
        Checks.refused("vat 4", mill, Checks.INDEX, () -> mill.ripe(4, 1));
        dueRipe(mill, 0, 6, 1);
        dueRipe(mill, 3, 7, 2);
    }

    // "if beat is not 1 to 99"
    private static void ripeBeatOneAndNinetyNine() {
        RagVats mill = Mills.beaten(0, 1, 96);
        mill.setWater(mill.count(0) % 7, 1);
        Checks.refused("beat 0", mill, Checks.ARGUMENT, () -> mill.ripe(0, 0));
        Checks.refused("beat -1", mill, Checks.ARGUMENT, () -> mill.ripe(0, -1));
        Checks.refused("beat 100", mill, Checks.ARGUMENT, () -> mill.ripe(0, 100));
        dueRipe(mill, 0, 1, 0);
        dueRipe(mill, 0, 99, 1);
        Checks.refused("beat 0 of an empty vat", mill, Checks.ARGUMENT, () -> mill.ripe(1, 0));
    }

    // "0 if now"; "has this beat or more"
    private static void ripeNow() {
        RagVats mill = Mills.beaten(0, 1, 50);
        dueRipe(mill, 0, 49, 0);
        dueRipe(mill, 0, 50, 0);
        dueRipe(mill, 0, 51, -1);
        mill.setWater(mill.count(0) % 7, 1);
        dueRipe(mill, 0, 50, 0);
        dueRipe(mill, 0, 51, 1);
        dueRipe(mill, 0, 53, 1);
        dueRipe(mill, 0, 54, 8);
    }

    // "at most 60; -1 if not by then"
    private static void ripeBehindSixtyDaysAndNotSixtyOne() {
        // Water on one day of seven: the 9th such day is the 57th to the 63rd from now.
        for (int wet = 0; wet < 7; wet++) {
            RagVats mill = Checks.withWater(0);
            mill.fill(2, 0, 1);
            mill.setWater(wet, 1);
            int behind = 8 * 7 + wet + 1;
            dueRipe(mill, 2, 27, behind <= 60 ? behind : -1);
            dueRipe(mill, 2, 25, behind <= 60 ? behind : -1);
            dueRipe(mill, 2, 24, behind - 7);
            dueRipe(mill, 2, 28, -1);
            mill.pass(1);
            dueRipe(mill, 2, 27, behind - 1 <= 60 ? behind - 1 : -1);
        }
    }

    // "-1 if not by then"
    private static void ripeNeverOfAnEmptyVat() {
        RagVats mill = Checks.withWater(9);
        for (int vat = 0; vat < 4; vat++) {
            dueRipe(mill, vat, 1, -1);
        }
        mill.fill(1, 0, 1);
        dueRipe(mill, 0, 1, -1);
        dueRipe(mill, 1, 99, 4);
        dueRipe(mill, 2, 1, -1);
        mill.drain(1);
        dueRipe(mill, 1, 1, -1);
    }

    // "behind how many whole days, if nothing else is done (teams go on)"
    private static void ripeLooksBehindWholeDays() {
        RagVats mill = Checks.withWater(9);
        mill.fill(0, 0, 24);
        Mills.addTeam(mill, 0, 12, 0, 1);
        dueRipe(mill, 0, 27, 1);
        // At 54 the first 12 pounds go, at 81 the others: behind that day the vat is empty.
        dueRipe(mill, 0, 54, 2);
        dueRipe(mill, 0, 55, -1);
        dueRipe(mill, 0, 81, -1);
        mill.place(0, -1, 0);
        dueRipe(mill, 0, 81, 3);
        mill.place(0, 0, 0);
        mill.fill(1, 0, 1);
        // 13 each; 39 at the third day and 52 at the fourth: then the other has all 27.
        dueRipe(mill, 1, 52, 4);
        dueRipe(mill, 1, 53, 5);
        dueRipe(mill, 1, 79, 5);
        dueRipe(mill, 1, 80, 6);
    }

    private static void firstNamedOfRipe() {
        RagVats mill = new RagVats();
        Checks.refused("no vat, beat 0", mill, Checks.INDEX, () -> mill.ripe(4, 0));
        Checks.refused("no vat, beat 100", mill, Checks.INDEX, () -> mill.ripe(-1, 100));
        Checks.refused("beat 100", mill, Checks.ARGUMENT, () -> mill.ripe(3, 100));
    }

    // "how many, 1 to 40"; "if days is not 1 to 40"
    private static void foreseesOneDayAndForty() {
        RagVats mill = Mills.withThreePosts();
        Checks.refused("0 days", mill, Checks.ARGUMENT, () -> mill.foresee(0, 0));
        Checks.refused("-1 days", mill, Checks.ARGUMENT, () -> mill.foresee(-1, 0));
        Checks.refused("41 days", mill, Checks.ARGUMENT, () -> mill.foresee(41, 0));
        Checks.dueUnchanged("1 day", mill, 11, () -> mill.foresee(1, 0));
        Checks.dueUnchanged("40 days", mill, 50, () -> mill.foresee(40, 0));
        Checks.dueUnchanged("the sheets behind 1 day", mill, 98 + 20, () -> mill.foresee(1, 4));
        Checks.dueUnchanged("the sheets behind 40 days", mill, 98 + 22, () -> mill.foresee(40, 4));
        Checks.dueUnchanged("the posts behind 1 day", mill, 4, () -> mill.foresee(1, 6));
        Checks.dueUnchanged("the posts behind 2 days", mill, 0, () -> mill.foresee(2, 6));
    }

    // "0 to 11 as count() has it"; "if what is not 0 to 11"
    private static void foreseesNoOtherKind() {
        RagVats mill = Mills.withThreePosts();
        Checks.refused("what -1", mill, Checks.INDEX, () -> mill.foresee(1, -1));
        Checks.refused("what 12", mill, Checks.INDEX, () -> mill.foresee(40, 12));
        int[] due = new int[12];
        RagVats other = Mills.withThreePosts();
        other.pass(1);
        for (int what = 0; what < 12; what++) {
            due[what] = other.count(what);
        }
        for (int what = 0; what < 12; what++) {
            int kind = what;
            Checks.dueUnchanged("foresee " + what, mill, due[what], () -> mill.foresee(1, kind));
        }
    }

    private static void firstNamedOfForesee() {
        RagVats mill = new RagVats();
        Checks.refused("0 days, what 12", mill, Checks.ARGUMENT, () -> mill.foresee(0, 12));
        Checks.refused("41 days, what -1", mill, Checks.ARGUMENT, () -> mill.foresee(41, -1));
        Checks.refused("40 days, what 12", mill, Checks.INDEX, () -> mill.foresee(40, 12));
    }

    // "behind so many days": also when the river begins again in between
    private static void foreseeBeginsWhereTheMillIs() {
        RagVats mill = Checks.withWater(0);
        mill.setWater(1, 9);
        mill.setWater(2, 1);
        mill.fill(0, 0, 40);
        Mills.addTeam(mill, 0, 12, 0, 1);
        mill.pass(5);
        Checks.due("27 and 3", 30, mill.about(0, 1));
        Checks.due("12, 12 and 12", 36, mill.count(4));
        mill.drain(0);
        mill.fill(0, 1, 40);
        // From the day 5 the days 1 and 2 are the fourth and the fifth.
        Checks.dueUnchanged("behind 4", mill, 36, () -> mill.foresee(4, 4));
        Checks.dueUnchanged("behind 5", mill, 48, () -> mill.foresee(5, 4));
        Checks.dueUnchanged("behind 8", mill, 76, () -> mill.foresee(8, 4));
        Checks.dueUnchanged("again behind 4", mill, 36, () -> mill.foresee(4, 4));
        Checks.due("and so it is", 40, mill.pass(8));
    }

    private static void dueAdvice(String call, RagVats mill, int team, int want) {
        Checks.dueUnchanged(call, mill, want, () -> mill.advise(team));
    }

    // "if there is no such team"
    private static void advisesNoOtherTeam() {
        RagVats mill = new RagVats();
        mill.pair(0, 1);
        Checks.refused("team 0 of none", mill, Checks.INDEX, () -> mill.advise(0));
        for (int team = 0; team < 3; team++) {
            mill.team(1);
            int next = team + 1;
            Checks.refused("team -1", mill, Checks.INDEX, () -> mill.advise(-1));
            Checks.refused("it is not there yet", mill, Checks.INDEX, () -> mill.advise(next));
            dueAdvice("the last one", mill, team, -1);
        }
    }

    // "-1 if the team has no pair"
    private static void advisesNoneWithoutAPair() {
        RagVats mill = Mills.beaten(0, 40, 60);
        mill.team(12);
        mill.team(12);
        mill.pair(0, 1);
        dueAdvice("neither a vat nor a pair", mill, 0, -1);
        mill.place(0, 0, -1);
        dueAdvice("a vat alone", mill, 0, -1);
        mill.place(0, -1, 0);
        dueAdvice("a pair alone", mill, 0, 0);
        dueAdvice("the other has none", mill, 1, -1);
        mill.place(0, -1, -1);
        dueAdvice("no more", mill, 0, -1);
    }

    // "All four vats are tried."
    private static void advisesEachOfTheFourVats() {
        for (int best = 0; best < 4; best++) {
            RagVats mill = Checks.withWater(0);
            mill.fill(best, 0, 12);
            Mills.beatTo(mill, best, 60);
            Mills.addTeam(mill, (best + 1) % 4, 12, 0, 1);
            dueAdvice("the only one", mill, 0, best);
            for (int vat = 0; vat < 4; vat++) {
                mill.place(0, vat, 0);
                dueAdvice("from the vat " + vat, mill, 0, best);
            }
        }
    }

    // "of several the one with the smallest number"
    private static void advisesTheSmallestOfSeveral() {
        for (int first = 0; first < 4; first++) {
            RagVats mill = Checks.withWater(0);
            for (int vat = first; vat < 4; vat++) {
                mill.fill(vat, 0, 12);
            }
            for (int day = 0; day < 10; day++) {
                Mills.dayWithWater(mill, 9);
            }
            for (int at = -1; at < 4; at++) {
                if (at == -1) {
                    Mills.addTeam(mill, -1, 12, 0, 1);
                } else {
                    mill.place(0, at, 0);
                }
                dueAdvice("all from " + first + " are as good", mill, 0, first);
            }
        }
        RagVats none = new RagVats();
        Mills.addTeam(none, 3, 12, 0, 1);
        dueAdvice("all are worth nothing", none, 0, 0);
    }

    // "on the coming day (behind its beating)"
    private static void advisesBehindTheBeating() {
        for (int beat = 26; beat <= 27; beat++) {
            RagVats mill = Checks.withWater(0);
            mill.fill(2, 0, 40);
            Mills.beatTo(mill, 2, beat);
            Mills.addTeam(mill, -1, 12, 0, 1);
            dueAdvice(beat + " on a dry day", mill, 0, 0);
            mill.setWater(mill.count(0) % 7, 1);
            dueAdvice(beat + " and 3", mill, 0, beat == 27 ? 2 : 0);
        }
        RagVats grade = Checks.withWater(0);
        grade.fill(1, 0, 6);
        Mills.beatTo(grade, 1, 17);
        grade.fill(0, 1, 10);
        for (int water : new int[] {9, 9, 9, 1}) {
            Mills.dayWithWater(grade, water);
        }
        Checks.due("the fine rags", 57, grade.about(1, 1));
        Checks.due("the plain rags", 40, grade.about(0, 1));
        Mills.addTeam(grade, -1, 12, 0, 1);
        dueAdvice("10 plain sheets, or 6 plain ones", grade, 0, 0);
        grade.setWater(grade.count(0) % 7, 2);
        dueAdvice("10 plain sheets, or 6 fine ones", grade, 0, 1);
    }

    /** Fine sheets of so many pounds in the vat 2 for the teams 1 and 2, coarse ones in the vat 3 for the team 0. */
    private static RagVats withAdvice(int pounds) {
        RagVats mill = Checks.withWater(0);
        mill.fill(2, 0, pounds);
        mill.fill(3, 2, 40);
        for (int day = 0; day < 5; day++) {
            Mills.dayWithWater(mill, 9);
        }
        for (int team = 0; team < 3; team++) {
            Mills.addTeam(mill, team == 0 ? 3 : 2, 12, team, 1);
        }
        Checks.due("the beat", 65, mill.about(2, 1));
        return mill;
    }

    // "so that the sheets that all teams make on the coming day ... are worth the most"
    private static void advisesForAllTeams() {
        // 30 felts. At no pulp: 0 + 144 + 144. At the vat 2: 144 + 144 + 72. At the vat 3: 36 + 144 + 72.
        dueAdvice("best with the others", withAdvice(40), 0, 2);
        // At no pulp: 0 + 144 + 144. At the vat 2: 144 + 144 + 0. At the vat 3: 36 + 144 + 72.
        RagVats mill = withAdvice(24);
        dueAdvice("the felts are better left to the others", mill, 0, 0);
        mill.buy(3, 5);
        // At the vat 3 now: 36 + 144 + 132.
        dueAdvice("with felts enough for the others", mill, 0, 3);
        dueAdvice("the other stays: 36 + 144 + 132", mill, 1, 2);
    }

    // "the mean of what all pairs are worn by; 0 without any"
    private static void meanOfNonePairIsNought() {
        RagVats mill = new RagVats();
        Checks.dueDouble("without any", 0.0, mill.mean());
        mill.team(1);
        Checks.dueDouble("without any", 0.0, mill.mean());
        mill.pair(0, 1);
        Checks.dueDouble("a new one", 0.0, mill.mean());
    }

    private static void meanOfAllPairs() {
        RagVats mill = Checks.withWater(0);
        mill.pair(0, 1);
        mill.team(1);
        Mills.wear(mill, 0, 0, 50);
        double[] due = {50.0, 25.0, 50.0 / 3.0, 12.5, 10.0};
        for (int pair = 1; pair <= 5; pair++) {
            Checks.dueDouble("50 of " + pair, due[pair - 1], mill.mean());
            if (pair < 5) {
                mill.pair(0, 1);
            }
        }
        mill.fill(0, 0, 7);
        Mills.beatTo(mill, 0, 30);
        mill.place(0, 0, 4);
        mill.pass(7);
        Checks.dueDouble("57 of five: not cut", 57.0 / 5.0, mill.mean());
        long before = mill.digest();
        mill.mean();
        Checks.due("nothing is changed", before, mill.digest());
        mill.wire(0);
        Checks.dueDouble("7 of five", 7.0 / 5.0, mill.mean());
        mill.wire(4);
        Checks.dueDouble("all are new again", 0.0, mill.mean());
    }

    private static BigInteger digestOf(int[] numbers) {
        BigInteger d = BigInteger.valueOf(1429);
        for (int x : numbers) {
            d = d.multiply(BigInteger.valueOf(31)).add(BigInteger.valueOf(x));
        }
        return d;
    }

    // "A number d starts with 1429"; "wraps around as a 64-bit integer"; without pairs, teams and posts
    private static void digestOfANewMill() {
        int[] numbers = new int[12 + 7 + 12 + 30];
        int[] counts = {0, 40, 30, 30, 0, 0, 0, 0, 0, 60, 60, 60};
        System.arraycopy(counts, 0, numbers, 0, 12);
        for (int day = 0; day < 7; day++) {
            numbers[12 + day] = 4;
        }
        for (int vat = 0; vat < 4; vat++) {
            numbers[12 + 7 + vat * 3 + 2] = -1;
        }
        BigInteger d = digestOf(numbers);
        Checks.due("it wraps around", 1, d.bitLength() > 64 ? 1 : 0);
        Checks.due("new", d.longValue(), new RagVats().digest());
    }

    // "for each pair ..., for each team ..., for each post ..., all in their order": with five, three and three of them
    private static void digestOfAFullMill() {
        RagVats mill = Mills.withThreePosts();
        mill.pair(2, 3);
        mill.pair(0, 2);
        for (int day = 0; day < 7; day++) {
            mill.setWater(day, 9 - day);
        }
        int worth = 24 * 12 + 12 * 7 + 36 * 7 + 26 * 3;
        int[] numbers = {
            10, 0, 50, 24, 98, worth, 3, 72, 22, 20, 20, 20,
            9, 8, 7, 6, 5, 4, 3,
            4, 63, 0, 4, 63, 1, 14, 63, 2, 0, 0, -1,
            9, 1, 18, 0, 8, 1, 18, 1, 7, 1, 13, 2, 2, 3, 0, -1, 0, 2, 0, -1,
            12, 0, 0, 4, 12, 1, 1, 4, 12, 2, 2, 12,
            9, 1, 12, 8, 1, 12, 7, 2, 2,
            0, 0, 0, 0, 0, 0, 0, 0, 0, 0, 0, 0, 0, 0, 0, 0, 0, 0, 0, 0, 0,
            0, 0, 24, 0, 24, 0, 24, 0, 0};
        Checks.due("full", digestOf(numbers).longValue(), mill.digest());
        Checks.due("again", digestOf(numbers).longValue(), mill.digest());
    }
}
