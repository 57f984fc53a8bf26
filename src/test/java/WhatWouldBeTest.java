/** Promises 18 to 21: ripe, foresee, advise and mean. */
final class WhatWouldBeTest {
    private static final int[] FAR = {-1, Integer.MIN_VALUE, Integer.MAX_VALUE};

    public static void main(String[] args) {
        ripens();
        ripensWhileTeamsGoOn();
        refusesRipe();
        foresees();
        foreseesWithPosts();
        refusesForesee();
        advises();
        advisesByTheOthers();
        advisesTheSmallest();
        refusesAdvise();
        means();
        Checks.end();
    }

    private static void dueRipe(RagVats mill, int vat, int beat, int want) {
        Checks.dueUnchanged("ripe " + vat + " " + beat, mill, want, () -> mill.ripe(vat, beat));
    }

    private static void ripens() {
        RagVats mill = new RagVats();
        mill.fill(0, 0, 40);
        dueRipe(mill, 0, 1, 1);
        dueRipe(mill, 0, 12, 1);
        dueRipe(mill, 0, 13, 2);
        dueRipe(mill, 0, 99, 9);
        dueRipe(mill, 1, 1, -1);
        mill.pass(2);
        dueRipe(mill, 0, 24, 0);
        dueRipe(mill, 0, 25, 1);
        dueRipe(mill, 0, 1, 0);
        RagVats slow = Checks.withWater(0);
        slow.fill(0, 0, 1);
        dueRipe(slow, 0, 1, -1);
        slow.setWater(3, 1);
        // Behind the days 3, 10, 17 .. 59 there are 3 more: 27 behind 60 days, at 59 + 1.
        dueRipe(slow, 0, 3, 4);
        dueRipe(slow, 0, 27, 60);
        dueRipe(slow, 0, 28, -1);
        slow.setWater(3, 0);
        slow.setWater(4, 1);
        dueRipe(slow, 0, 24, 54);
        dueRipe(slow, 0, 25, -1);
    }

    private static void ripensWhileTeamsGoOn() {
        RagVats mill = Checks.withWater(6);
        mill.fill(0, 0, 24);
        mill.fill(1, 1, 1);
        mill.pair(0, 1);
        mill.team(12);
        mill.place(0, 0, 0);
        // 9 a day while both have pulp: sheets at 36 and 45, then the first vat is empty, and the other alone gets 18.
        dueRipe(mill, 0, 36, 4);
        dueRipe(mill, 0, 37, -1);
        dueRipe(mill, 0, 45, -1);
        dueRipe(mill, 1, 45, 5);
        dueRipe(mill, 1, 63, 6);
        dueRipe(mill, 1, 64, 7);
    }

    private static void refusesRipe() {
        RagVats mill = new RagVats();
        int[] noBeats = {0, -1, 100, Integer.MIN_VALUE, Integer.MAX_VALUE};
        for (int vat : new int[] {-1, 4, Integer.MIN_VALUE, Integer.MAX_VALUE}) {
            Checks.refused("ripe vat " + vat, mill, Checks.INDEX, () -> mill.ripe(vat, 1));
            for (int beat : noBeats) {
                Checks.refused("ripe vat and beat", mill, Checks.INDEX, () -> mill.ripe(vat, beat));
            }
        }
        for (int beat : noBeats) {
            Checks.refused("ripe beat " + beat, mill, Checks.ARGUMENT, () -> mill.ripe(0, beat));
        }
    }

    private static RagVats busy() {
        RagVats mill = new RagVats();
        mill.fill(0, 0, 40);
        mill.fill(1, 1, 30);
        for (int team = 0; team < 2; team++) {
            mill.pair(team, team + 1);
            mill.team(11);
            mill.place(team, team, team);
        }
        return mill;
    }

    private static void foresees() {
        int[] days = {1, 2, 5, 6, 8, 40};
        for (int ahead : days) {
            RagVats mill = busy();
            RagVats other = busy();
            other.pass(ahead);
            for (int what = 0; what < 12; what++) {
                int kind = what;
                Checks.dueUnchanged("foresee " + ahead + " " + what, mill, other.count(what),
                        () -> mill.foresee(ahead, kind));
            }
        }
        RagVats mill = busy();
        Checks.due("beat 30 on the fifth day", 0, mill.foresee(4, 4));
        Checks.due("beat 30 on the fifth day", 22, mill.foresee(5, 4));
        Checks.due("the day", 5, mill.foresee(5, 0));
        Checks.due("pulp", 29 + 8, mill.foresee(5, 8));
    }

    /** A mill with posts on its felts, sheets in its loft, and other felts, coins and rags than at first. */
    private static RagVats pressing() {
        RagVats mill = Checks.withWater(6);
        mill.fill(0, 0, 40);
        mill.fill(1, 0, 20);
        mill.fill(2, 1, 40);
        mill.buy(3, 7);
        mill.buy(2, 3);
        for (int team = 0; team < 3; team++) {
            mill.pair(8 - team, 1);
            mill.team(12);
            mill.place(team, team, team);
        }
        mill.pass(6);
        return mill;
    }

    private static void foreseesWithPosts() {
        int[] days = {1, 2, 3, 4, 10, 40};
        for (int ahead : days) {
            RagVats mill = pressing();
            Checks.due("posts are on the felts", 2, mill.count(6));
            Checks.due("felts are taken", 24, mill.count(3));
            RagVats other = pressing();
            other.pass(ahead);
            for (int what = 0; what < 12; what++) {
                int kind = what;
                Checks.dueUnchanged("with posts: foresee " + ahead + " " + what, mill, other.count(what),
                        () -> mill.foresee(ahead, kind));
            }
        }
    }

    private static void refusesForesee() {
        RagVats mill = busy();
        int[] noDays = {0, -1, 41, Integer.MIN_VALUE, Integer.MAX_VALUE};
        int[] noKinds = {-1, 12, Integer.MIN_VALUE, Integer.MAX_VALUE};
        for (int days : noDays) {
            Checks.refused("foresee days " + days, mill, Checks.ARGUMENT, () -> mill.foresee(days, 0));
            for (int what : noKinds) {
                Checks.refused("foresee days and what", mill, Checks.ARGUMENT, () -> mill.foresee(days, what));
            }
        }
        for (int what : noKinds) {
            Checks.refused("foresee what " + what, mill, Checks.INDEX, () -> mill.foresee(1, what));
        }
    }

    private static void dueAdvice(String call, RagVats mill, int team, int want) {
        Checks.dueUnchanged(call, mill, want, () -> mill.advise(team));
    }

    private static void advises() {
        RagVats mill = Checks.withWater(9);
        mill.fill(1, 2, 40);
        mill.fill(2, 1, 40);
        mill.fill(3, 0, 9);
        mill.team(12);
        mill.pair(0, 1);
        dueAdvice("without a pair", mill, 0, -1);
        mill.place(0, 2, -1);
        dueAdvice("at a vat, without a pair", mill, 0, -1);
        mill.place(0, -1, 0);
        dueAdvice("nothing is made anywhere: the first", mill, 0, 0);
        mill.pass(2);
        dueAdvice("27 on the coming day is too little anywhere", mill, 0, 0);
        mill.pass(2);
        // At a beat of 45: coarse 12 * 3, plain 12 * 7, fine rags 9 * 7.
        dueAdvice("plain rags are best", mill, 0, 2);
        mill.pass(2);
        // At a beat of 63: coarse 12 * 3, plain 12 * 7, fine rags 9 * 12.
        dueAdvice("fine rags are best", mill, 0, 3);
        mill.place(0, 1, 0);
        dueAdvice("wherever it is", mill, 0, 3);
    }

    private static void advisesByTheOthers() {
        RagVats mill = Checks.withWater(0);
        mill.fill(0, 0, 12);
        mill.fill(1, 2, 12);
        for (int day = 0; day < 5; day++) {
            mill.setWater(day, 9);
        }
        mill.pass(5);
        Checks.due("the beat", 65, mill.about(0, 1));
        mill.team(12);
        mill.team(12);
        mill.pair(0, 1);
        mill.pair(0, 1);
        mill.place(1, 0, 1);
        mill.place(0, 0, 0);
        // At the vat 0 it would only take the other's pulp.
        dueAdvice("not where the other is", mill, 0, 1);
        mill.place(1, 1, 1);
        dueAdvice("at the fine rags", mill, 0, 0);
        dueAdvice("the other stays at its own", mill, 1, 1);
    }

    private static void advisesTheSmallest() {
        RagVats mill = Checks.withWater(9);
        mill.fill(3, 0, 20);
        mill.fill(2, 0, 20);
        mill.pass(4);
        mill.team(6);
        mill.pair(0, 2);
        mill.place(0, 3, 0);
        dueAdvice("both are as good: the smaller number", mill, 0, 2);
        // Only behind the beating of the coming day there is enough.
        RagVats first = Checks.withWater(9);
        first.fill(1, 0, 20);
        first.pass(1);
        first.team(6);
        first.pair(0, 2);
        first.place(0, -1, 0);
        Checks.due("27 now", 27, first.about(1, 1));
        dueAdvice("54 then", first, 0, 1);
    }

    private static void refusesAdvise() {
        RagVats mill = busy();
        Checks.refused("advise no team", mill, Checks.INDEX, () -> mill.advise(2));
        for (int far : FAR) {
            Checks.refused("advise " + far, mill, Checks.INDEX, () -> mill.advise(far));
        }
    }

    private static void means() {
        RagVats mill = Checks.withWater(0);
        Checks.dueDouble("without any", 0.0, mill.mean());
        mill.fill(0, 0, 40);
        Checks.beatTo(mill, 0, 30);
        mill.pair(0, 1);
        Checks.dueDouble("one that is not worn", 0.0, mill.mean());
        mill.team(3);
        mill.place(0, 0, 0);
        mill.pass(1);
        Checks.dueDouble("worn by 2", 2.0, mill.mean());
        mill.pair(0, 1);
        Checks.dueDouble("2 of two", 1.0, mill.mean());
        mill.pair(0, 1);
        Checks.dueDouble("2 of three", 2.0 / 3.0, mill.mean());
        mill.place(0, 0, 1);
        mill.pass(1);
        Checks.dueDouble("4 of three", 4.0 / 3.0, mill.mean());
        long before = mill.digest();
        mill.mean();
        Checks.due("mean changes nothing", before, mill.digest());
    }
}
