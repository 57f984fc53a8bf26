import java.util.ArrayList;
import java.util.List;

/**
 * The document again, written another way and without thrift, for ManyRunsTest: sheets are single things on the
 * felts, what would be is found on a copy. A call answers a number, or the name of the exception that it throws.
 */
final class SlowMill {
    static final String INDEX = "IndexOutOfBoundsException";
    static final String ARGUMENT = "IllegalArgumentException";
    static final String STATE = "IllegalStateException";

    private static final class Vat {
        int pulp;
        int beat;
        int sort = -1;
    }

    private static final class Pair {
        int mark;
        int size;
        int worn;
    }

    private static final class Team {
        int skill;
        Vat vat;
        Pair pair;
    }

    /** A sheet on a felt; those of one post have the same birth. */
    private static final class Sheet {
        int mark;
        int grade;
        int birth;
    }

    private int day;
    private int coins = 40;
    private int felts = 30;
    private int worth;
    private int births;
    private int made;
    private final int[] rags = {60, 60, 60};
    private final int[] river = {4, 4, 4, 4, 4, 4, 4};
    private final List<Vat> vats = new ArrayList<>();
    private final List<Pair> pairs = new ArrayList<>();
    private final List<Team> teams = new ArrayList<>();
    private final List<Sheet> onFelts = new ArrayList<>();
    private final int[][] inLoft = new int[10][3];

    SlowMill() {
        for (int i = 0; i < 4; i++) {
            vats.add(new Vat());
        }
    }

    private SlowMill copy() {
        SlowMill m = new SlowMill();
        m.day = day;
        m.coins = coins;
        m.felts = felts;
        m.worth = worth;
        m.births = births;
        m.made = made;
        System.arraycopy(rags, 0, m.rags, 0, 3);
        System.arraycopy(river, 0, m.river, 0, 7);
        for (int i = 0; i < 4; i++) {
            Vat v = m.vats.get(i);
            v.pulp = vats.get(i).pulp;
            v.beat = vats.get(i).beat;
            v.sort = vats.get(i).sort;
        }
        for (Pair p : pairs) {
            Pair q = new Pair();
            q.mark = p.mark;
            q.size = p.size;
            q.worn = p.worn;
            m.pairs.add(q);
        }
        for (Team t : teams) {
            Team u = new Team();
            u.skill = t.skill;
            u.vat = t.vat == null ? null : m.vats.get(vats.indexOf(t.vat));
            u.pair = t.pair == null ? null : m.pairs.get(pairs.indexOf(t.pair));
            m.teams.add(u);
        }
        m.onFelts.addAll(onFelts);
        for (int i = 0; i < 10; i++) {
            System.arraycopy(inLoft[i], 0, m.inLoft[i], 0, 3);
        }
        return m;
    }

    private static boolean out(int x, int least, int most) {
        return x < least || x > most;
    }

    private static int coinsOf(int grade) {
        return new int[] {12, 7, 3}[grade];
    }

    private int would(Team t) {
        if (t.vat == null || t.pair == null || t.vat.beat < 30) {
            return 0;
        }
        return Math.min(Math.min(t.skill, felts - onFelts.size()), t.vat.pulp / t.pair.size);
    }

    private void live() {
        long full = vats.stream().filter(v -> v.pulp > 0).count();
        for (Vat v : vats) {
            if (v.pulp > 0) {
                v.beat = (int) Math.min(99, v.beat + 3 * river[day % 7] / full);
            }
        }
        for (Team t : teams) {
            make(t);
        }
        for (int i = 0; i < 24 && !onFelts.isEmpty(); i++) {
            Sheet s = onFelts.remove(0);
            inLoft[s.mark][s.grade]++;
        }
        day++;
    }

    private void make(Team t) {
        int sheets = would(t);
        if (sheets == 0) {
            return;
        }
        int points = t.vat.beat / 10 + new int[] {6, 3, 0}[t.vat.sort] - t.pair.worn / 10;
        int grade = points >= 12 ? 0 : points >= 7 ? 1 : 2;
        births++;
        for (int i = 0; i < sheets; i++) {
            Sheet s = new Sheet();
            s.mark = t.pair.mark;
            s.grade = grade;
            s.birth = births;
            onFelts.add(s);
            t.vat.pulp -= t.pair.size;
            worth += coinsOf(grade);
            made++;
            if (i % 2 == 0 && t.pair.worn < 50) {
                t.pair.worn++;
            }
        }
        if (t.vat.pulp == 0) {
            t.vat.beat = 0;
            t.vat.sort = -1;
        }
    }

    /** The rows {mark, grade, sheets} of the posts. */
    private List<int[]> posts() {
        List<int[]> rows = new ArrayList<>();
        int birth = 0;
        for (Sheet s : onFelts) {
            if (s.birth != birth) {
                rows.add(new int[] {s.mark, s.grade, 0});
                birth = s.birth;
            }
            rows.get(rows.size() - 1)[2]++;
        }
        return rows;
    }

    private int counted(int what) {
        int hanging = 0;
        for (int[] row : inLoft) {
            hanging += row[0] + row[1] + row[2];
        }
        int pulp = vats.stream().mapToInt(v -> v.pulp).sum();
        int[] all = {day, coins, felts, felts - onFelts.size(), made, worth, posts().size(), hanging, pulp,
            rags[0], rags[1], rags[2]};
        return all[what];
    }

    private int[] pairRow(Pair p) {
        int holder = -1;
        for (Team t : teams) {
            if (t.pair == p) {
                holder = teams.indexOf(t);
            }
        }
        return new int[] {p.mark, p.size, p.worn, holder};
    }

    private int[] teamRow(Team t) {
        return new int[] {t.skill, vats.indexOf(t.vat), pairs.indexOf(t.pair), would(t)};
    }

    long digest() {
        List<Integer> all = new ArrayList<>();
        for (int what = 0; what < 12; what++) {
            all.add(counted(what));
        }
        List<int[]> rows = new ArrayList<>();
        rows.add(river);
        vats.forEach(v -> rows.add(new int[] {v.pulp, v.beat, v.sort}));
        pairs.forEach(p -> rows.add(pairRow(p)));
        teams.forEach(t -> rows.add(teamRow(t)));
        rows.addAll(posts());
        rows.addAll(List.of(inLoft));
        for (int[] row : rows) {
            for (int x : row) {
                all.add(x);
            }
        }
        long d = 1429;
        for (int x : all) {
            d = d * 31 + x;
        }
        return d;
    }

    double mean() {
        return pairs.stream().mapToInt(p -> p.worn).average().orElse(0);
    }

    Object buy(int what, int many) {
        if (out(what, 0, 3)) {
            return INDEX;
        }
        if (out(many, 1, 99)) {
            return ARGUMENT;
        }
        int cost = many * (what == 0 ? 3 : what == 2 ? 1 : 2);
        if (cost > coins || what == 3 && felts + many > 90) {
            return STATE;
        }
        coins -= cost;
        if (what == 3) {
            felts += many;
            return felts;
        }
        rags[what] += many;
        return rags[what];
    }

    Object sell(int mark, int grade, int quires) {
        if (out(mark, 0, 9) || out(grade, 0, 2)) {
            return INDEX;
        }
        if (out(quires, 1, 9)) {
            return ARGUMENT;
        }
        if (inLoft[mark][grade] < 24 * quires) {
            return STATE;
        }
        inLoft[mark][grade] -= 24 * quires;
        coins += quires * coinsOf(grade);
        return quires * coinsOf(grade);
    }

    Object fill(int vat, int rag, int pounds) {
        if (out(vat, 0, 3) || out(rag, 0, 2)) {
            return INDEX;
        }
        if (out(pounds, 1, 40)) {
            return ARGUMENT;
        }
        Vat v = vats.get(vat);
        if (v.pulp > 0 || rags[rag] < pounds) {
            return STATE;
        }
        rags[rag] -= pounds;
        v.pulp = pounds;
        v.sort = rag;
        return rags[rag];
    }

    Object drain(int vat) {
        if (out(vat, 0, 3)) {
            return INDEX;
        }
        if (vats.get(vat).pulp == 0) {
            return STATE;
        }
        int pulp = vats.get(vat).pulp;
        Vat v = vats.get(vat);
        v.pulp = 0;
        v.beat = 0;
        v.sort = -1;
        return pulp;
    }

    Object pair(int mark, int size) {
        if (out(mark, 0, 9)) {
            return INDEX;
        }
        if (out(size, 1, 3)) {
            return ARGUMENT;
        }
        if (pairs.size() == 5) {
            return STATE;
        }
        Pair p = new Pair();
        p.mark = mark;
        p.size = size;
        pairs.add(p);
        return pairs.size() - 1;
    }

    Object wire(int pair) {
        if (out(pair, 0, pairs.size() - 1)) {
            return INDEX;
        }
        int worn = pairs.get(pair).worn;
        if (worn == 0 || coins < 5) {
            return STATE;
        }
        coins -= 5;
        pairs.get(pair).worn = 0;
        return worn;
    }

    Object team(int skill) {
        if (out(skill, 1, 12)) {
            return ARGUMENT;
        }
        if (teams.size() == 3) {
            return STATE;
        }
        Team t = new Team();
        t.skill = skill;
        teams.add(t);
        return teams.size() - 1;
    }

    Object place(int team, int vat, int pair) {
        if (out(team, 0, teams.size() - 1) || out(vat, -1, 3) || out(pair, -1, pairs.size() - 1)) {
            return INDEX;
        }
        Team t = teams.get(team);
        Pair p = pair < 0 ? null : pairs.get(pair);
        for (Team other : teams) {
            if (other != t && p != null && other.pair == p) {
                return STATE;
            }
        }
        t.vat = vat < 0 ? null : vats.get(vat);
        t.pair = p;
        return would(t);
    }

    Object setWater(int day, int water) {
        if (out(day, 0, 6)) {
            return INDEX;
        }
        if (out(water, 0, 9)) {
            return ARGUMENT;
        }
        int before = river[day];
        river[day] = water;
        return before;
    }

    Object about(int vat, int what) {
        if (out(vat, 0, 3) || out(what, 0, 2)) {
            return INDEX;
        }
        Vat v = vats.get(vat);
        return what == 0 ? v.pulp : what == 1 ? v.beat : v.sort;
    }

    Object mould(int pair, int what) {
        return out(pair, 0, pairs.size() - 1) || out(what, 0, 3) ? INDEX : (Object) pairRow(pairs.get(pair))[what];
    }

    Object told(int team, int what) {
        return out(team, 0, teams.size() - 1) || out(what, 0, 3) ? INDEX : (Object) teamRow(teams.get(team))[what];
    }

    Object post(int place, int what) {
        return out(place, 0, posts().size() - 1) || out(what, 0, 2) ? INDEX : (Object) posts().get(place)[what];
    }

    Object loft(int mark, int grade) {
        return out(mark, 0, 9) || out(grade, 0, 2) ? INDEX : (Object) inLoft[mark][grade];
    }

    Object count(int what) {
        return out(what, 0, 11) ? INDEX : (Object) counted(what);
    }

    Object pass(int days) {
        if (out(days, 1, 40)) {
            return ARGUMENT;
        }
        int before = made;
        for (int i = 0; i < days; i++) {
            live();
        }
        return made - before;
    }

    Object ripe(int vat, int beat) {
        if (out(vat, 0, 3)) {
            return INDEX;
        }
        if (out(beat, 1, 99)) {
            return ARGUMENT;
        }
        SlowMill m = copy();
        int days = 0;
        while (m.vats.get(vat).beat < beat && days < 61) {
            m.live();
            days++;
        }
        return days > 60 ? -1 : days;
    }

    Object foresee(int days, int what) {
        if (out(days, 1, 40)) {
            return ARGUMENT;
        }
        if (out(what, 0, 11)) {
            return INDEX;
        }
        SlowMill m = copy();
        m.pass(days);
        return m.counted(what);
    }

    Object advise(int team) {
        if (out(team, 0, teams.size() - 1)) {
            return INDEX;
        }
        if (teams.get(team).pair == null) {
            return -1;
        }
        int best = 3;
        int most = -1;
        for (int vat = 3; vat >= 0; vat--) {
            SlowMill m = copy();
            m.teams.get(team).vat = m.vats.get(vat);
            m.live();
            if (m.worth - worth >= most) {
                most = m.worth - worth;
                best = vat;
            }
        }
        return best;
    }
}
