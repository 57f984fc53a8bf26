import java.util.Arrays;

/** A paper mill on a river, as ../shared/DOC.md promises it. */
public final class RagVats {
    private static final int NONE = -1;

    private static final int DAYS_OF_TABLE = 7;
    private static final int MOST_WATER = 9;
    private static final int FIRST_WATER = 4;

    private static final int SORTS = 3;
    private static final int FIRST_POUNDS = 60;
    private static final int FELT_WARE = 3;
    private static final int WARES = 4;
    private static final int MOST_BOUGHT = 99;
    private static final int[] PRICES = {3, 2, 1, 2};
    private static final int[] SORT_POINTS = {6, 3, 0};

    private static final int VATS = 4;
    private static final int MOST_PULP = 40;
    private static final int MOST_BEAT = 99;
    private static final int BEAT_FOR_SHEETS = 30;

    private static final int MOST_PAIRS = 5;
    private static final int MARKS = 10;
    private static final int MOST_SIZE = 3;
    private static final int MOST_WORN = 50;
    private static final int WIRE_PRICE = 5;

    private static final int MOST_TEAMS = 3;
    private static final int MOST_SKILL = 12;

    private static final int FIRST_FELTS = 30;
    private static final int MOST_FELTS = 90;
    private static final int PRESSED_A_DAY = 24;

    private static final int FINE = 0;
    private static final int PLAIN = 1;
    private static final int COARSE = 2;
    private static final int GRADES = 3;
    private static final int FINE_POINTS = 12;
    private static final int PLAIN_POINTS = 7;
    private static final int[] SHEET_WORTH = {12, 7, 3};
    private static final int SHEETS_A_QUIRE = 24;
    private static final int MOST_QUIRES = 9;

    private static final int FIRST_COINS = 40;
    private static final int MOST_DAYS = 40;
    private static final int MOST_RIPE_DAYS = 60;

    private static final int COUNT_KINDS = 12;
    private static final int ABOUT_KINDS = 3;
    private static final int MOULD_KINDS = 4;
    private static final int TOLD_KINDS = 4;
    private static final int POST_KINDS = 3;

    private static final long DIGEST_START = 1429L;
    private static final long DIGEST_FACTOR = 31L;

    private final Mill mill = new Mill();

    // Days that are only thought of are lived here, so that no call makes a mill of its own.
    private final Mill trial = new Mill();

    /** Creates a mill with empty vats, without moulds and teams, on the day 0. */
    public RagVats() {
    }

    // ---- buying and selling

    /** Buys pounds of rags (what 0 to 2) or felts (what 3); returns how many of these there are then. */
    public int buy(int what, int many)
            throws IndexOutOfBoundsException, IllegalArgumentException, IllegalStateException {
        if (!isBelow(what, WARES)) {
            throw new IndexOutOfBoundsException("what is not 0 to 3");
        }
        if (!isFrom1To(many, MOST_BOUGHT)) {
            throw new IllegalArgumentException("many is not 1 to 99");
        }
        int cost = PRICES[what] * many;
        if (mill.coins < cost) {
            throw new IllegalStateException("too few coins");
        }
        if (what == FELT_WARE && mill.felts + many > MOST_FELTS) {
            throw new IllegalStateException("more than 90 felts");
        }
        mill.coins -= cost;
        return mill.takeIn(what, many);
    }

    /** Sells quires out of the loft; returns the coins that come in. */
    public int sell(int mark, int grade, int quires)
            throws IndexOutOfBoundsException, IllegalArgumentException, IllegalStateException {
        if (!isBelow(mark, MARKS) || !isBelow(grade, GRADES)) {
            throw new IndexOutOfBoundsException("no such mark or grade");
        }
        if (!isFrom1To(quires, MOST_QUIRES)) {
            throw new IllegalArgumentException("quires is not 1 to 9");
        }
        int sheets = quires * SHEETS_A_QUIRE;
        if (mill.hanging(mark, grade) < sheets) {
            throw new IllegalStateException("too few sheets in the loft");
        }
        int income = quires * worthOf(grade);
        mill.hang(mark, grade, -sheets);
        mill.coins += income;
        return income;
    }

    // ---- vats, pairs, teams

    /** Fills an empty vat with rags; returns the pounds of this sort that are left. */
    public int fill(int vat, int rag, int pounds)
            throws IndexOutOfBoundsException, IllegalArgumentException, IllegalStateException {
        if (!isBelow(vat, VATS) || !isBelow(rag, SORTS)) {
            throw new IndexOutOfBoundsException("no such vat or sort");
        }
        if (!isFrom1To(pounds, MOST_PULP)) {
            throw new IllegalArgumentException("pounds is not 1 to 40");
        }
        if (mill.vats.pulpOf(vat) > 0) {
            throw new IllegalStateException("the vat is not empty");
        }
        if (mill.rags[rag] < pounds) {
            throw new IllegalStateException("too few pounds");
        }
        mill.rags[rag] -= pounds;
        mill.vats.charge(vat, rag, pounds);
        return mill.rags[rag];
    }

    /** Lets the pulp of a vat run off; returns the pulp that it had. */
    public int drain(int vat) throws IndexOutOfBoundsException, IllegalStateException {
        if (!isBelow(vat, VATS)) {
            throw new IndexOutOfBoundsException("no such vat");
        }
        int pulp = mill.vats.pulpOf(vat);
        if (pulp == 0) {
            throw new IllegalStateException("the vat is empty");
        }
        mill.vats.takeOut(vat, pulp);
        return pulp;
    }

    /** Adds a new pair of moulds, not worn; returns its number. */
    public int pair(int mark, int size)
            throws IndexOutOfBoundsException, IllegalArgumentException, IllegalStateException {
        if (!isBelow(mark, MARKS)) {
            throw new IndexOutOfBoundsException("mark is not 0 to 9");
        }
        if (!isFrom1To(size, MOST_SIZE)) {
            throw new IllegalArgumentException("size is not 1 to 3");
        }
        if (mill.moulds.number >= MOST_PAIRS) {
            throw new IllegalStateException("there are 5 pairs");
        }
        return mill.moulds.add(mark, size);
    }

    /** Has a pair wired anew, for 5 coins; returns by how much it was worn. */
    public int wire(int pair) throws IndexOutOfBoundsException, IllegalStateException {
        if (!mill.moulds.has(pair)) {
            throw new IndexOutOfBoundsException("no such pair");
        }
        int worn = mill.moulds.wornOf(pair);
        if (worn == 0) {
            throw new IllegalStateException("the pair is not worn");
        }
        if (mill.coins < WIRE_PRICE) {
            throw new IllegalStateException("too few coins");
        }
        mill.coins -= WIRE_PRICE;
        mill.moulds.makeNew(pair);
        return worn;
    }

    /** Adds a new team, without a vat and a pair; returns its number. */
    public int team(int skill) throws IllegalArgumentException, IllegalStateException {
        if (!isFrom1To(skill, MOST_SKILL)) {
            throw new IllegalArgumentException("skill is not 1 to 12");
        }
        if (mill.teams.number >= MOST_TEAMS) {
            throw new IllegalStateException("there are 3 teams");
        }
        return mill.teams.add(skill);
    }

    /** Sends a team to a vat, with a pair (-1 for none); returns how many sheets it would make now. */
    public int place(int team, int vat, int pair) throws IndexOutOfBoundsException, IllegalStateException {
        if (!mill.teams.has(team)) {
            throw new IndexOutOfBoundsException("no such team");
        }
        if (vat != NONE && !isBelow(vat, VATS)) {
            throw new IndexOutOfBoundsException("no such vat");
        }
        if (pair != NONE && !mill.moulds.has(pair)) {
            throw new IndexOutOfBoundsException("no such pair");
        }
        int holder = mill.teams.holderOf(pair);
        if (holder != NONE && holder != team) {
            throw new IllegalStateException("another team has this pair");
        }
        mill.teams.send(team, vat, pair);
        return mill.sheetsOf(team);
    }

    /** Sets the water of the river on a day of the table; returns that before. */
    public int setWater(int day, int water) throws IndexOutOfBoundsException, IllegalArgumentException {
        if (!isBelow(day, DAYS_OF_TABLE)) {
            throw new IndexOutOfBoundsException("day is not 0 to 6");
        }
        if (water < 0 || water > MOST_WATER) {
            throw new IllegalArgumentException("water is not 0 to 9");
        }
        int before = mill.water[day];
        mill.water[day] = water;
        return before;
    }

    // ---- what there is

    /** Tells of a vat: 0 its pulp, 1 its beat, 2 its sort of rags (-1 if it is empty). */
    public int about(int vat, int what) throws IndexOutOfBoundsException {
        if (!isBelow(vat, VATS) || !isBelow(what, ABOUT_KINDS)) {
            throw new IndexOutOfBoundsException("no such vat, or what is not 0 to 2");
        }
        return mill.vats.tell(vat, what);
    }

    /** Tells of a pair: 0 its watermark, 1 its size, 2 what it is worn by, 3 its team (-1 for none). */
    public int mould(int pair, int what) throws IndexOutOfBoundsException {
        if (!mill.moulds.has(pair) || !isBelow(what, MOULD_KINDS)) {
            throw new IndexOutOfBoundsException("no such pair, or what is not 0 to 3");
        }
        return mill.tellPair(pair, what);
    }

    /** Tells of a team: 0 its skill, 1 its vat, 2 its pair (-1 for none), 3 the sheets it would make now. */
    public int told(int team, int what) throws IndexOutOfBoundsException {
        if (!mill.teams.has(team) || !isBelow(what, TOLD_KINDS)) {
            throw new IndexOutOfBoundsException("no such team, or what is not 0 to 3");
        }
        return mill.tellTeam(team, what);
    }

    /** Tells of the post at a place in the row: 0 its watermark, 1 its grade, 2 its sheets that are left. */
    public int post(int place, int what) throws IndexOutOfBoundsException {
        if (!mill.posts.has(place) || !isBelow(what, POST_KINDS)) {
            throw new IndexOutOfBoundsException("no such post, or what is not 0 to 2");
        }
        return mill.posts.tell(place, what);
    }

    /** Tells how many sheets of a watermark and grade hang in the loft. */
    public int loft(int mark, int grade) throws IndexOutOfBoundsException {
        if (!isBelow(mark, MARKS) || !isBelow(grade, GRADES)) {
            throw new IndexOutOfBoundsException("no such mark or grade");
        }
        return mill.hanging(mark, grade);
    }

    /**
     * Tells 0 the day, 1 coins, 2 felts, 3 free felts, 4 sheets made, 5 their worth, 6 posts,
     * 7 sheets in the loft, 8 pulp of all vats, 9 to 11 pounds of rags in no vat.
     */
    public int count(int what) throws IndexOutOfBoundsException {
        if (!isBelow(what, COUNT_KINDS)) {
            throw new IndexOutOfBoundsException("what is not 0 to 11");
        }
        return mill.tell(what);
    }

    // ---- days and what would be

    /** Lets days go by; returns how many sheets are made in them. */
    public int pass(int days) throws IllegalArgumentException {
        if (!isFrom1To(days, MOST_DAYS)) {
            throw new IllegalArgumentException("days is not 1 to 40");
        }
        int before = mill.made;
        mill.liveDays(days);
        return mill.made - before;
    }

    /** Tells behind how many whole days a vat has a beat for the first time, -1 if not by 60. */
    public int ripe(int vat, int beat) throws IndexOutOfBoundsException, IllegalArgumentException {
        if (!isBelow(vat, VATS)) {
            throw new IndexOutOfBoundsException("no such vat");
        }
        if (!isFrom1To(beat, MOST_BEAT)) {
            throw new IllegalArgumentException("beat is not 1 to 99");
        }
        trial.becomeLike(mill);
        for (int days = 0; days <= MOST_RIPE_DAYS; days++) {
            if (trial.vats.beatOf(vat) >= beat) {
                return days;
            }
            trial.liveDay();
        }
        return NONE;
    }

    /** Tells what count(what) would tell behind so many days. */
    public int foresee(int days, int what) throws IllegalArgumentException, IndexOutOfBoundsException {
        if (!isFrom1To(days, MOST_DAYS)) {
            throw new IllegalArgumentException("days is not 1 to 40");
        }
        if (!isBelow(what, COUNT_KINDS)) {
            throw new IndexOutOfBoundsException("what is not 0 to 11");
        }
        trial.becomeLike(mill);
        trial.liveDays(days);
        return trial.tell(what);
    }

    /** Tells the vat at which a team had best be on the coming day, -1 if it has no pair. */
    public int advise(int team) throws IndexOutOfBoundsException {
        if (!mill.teams.has(team)) {
            throw new IndexOutOfBoundsException("no such team");
        }
        int pair = mill.teams.pairOf(team);
        if (pair == NONE) {
            return NONE;
        }
        int best = 0;
        int most = worthOfDayWith(team, 0, pair);
        for (int vat = 1; vat < VATS; vat++) {
            int worth = worthOfDayWith(team, vat, pair);
            if (worth > most) {
                most = worth;
                best = vat;
            }
        }
        return best;
    }

    /** Tells the mean of what all pairs are worn by, 0 without any. */
    public double mean() {
        int number = mill.moulds.number;
        if (number == 0) {
            return 0.0;
        }
        int sum = 0;
        for (int pair = 0; pair < number; pair++) {
            sum += mill.moulds.wornOf(pair);
        }
        return (double) sum / number;
    }

    /** Computes a checksum of all that the mill tells. */
    public long digest() {
        long d = digestCountsAndRiver(DIGEST_START);
        d = digestVats(d);
        d = digestPairs(d);
        d = digestTeams(d);
        d = digestPosts(d);
        return digestLoft(d);
    }

    // ---- parts of the calls above

    private static boolean isBelow(int number, int bound) {
        return number >= 0 && number < bound;
    }

    private static boolean isFrom1To(int number, int most) {
        return number >= 1 && number <= most;
    }

    private static int worthOf(int grade) {
        return isBelow(grade, GRADES) ? SHEET_WORTH[grade] : 0;
    }

    private int worthOfDayWith(int team, int vat, int pair) {
        trial.becomeLike(mill);
        trial.teams.send(team, vat, pair);
        trial.liveDay();
        return trial.worth - mill.worth;
    }

    private static long mix(long d, int x) {
        return d * DIGEST_FACTOR + x;
    }

    private long digestCountsAndRiver(long start) {
        long d = start;
        for (int what = 0; what < COUNT_KINDS; what++) {
            d = mix(d, mill.tell(what));
        }
        for (int day = 0; day < DAYS_OF_TABLE; day++) {
            d = mix(d, mill.water[day]);
        }
        return d;
    }

    private long digestVats(long start) {
        long d = start;
        for (int vat = 0; vat < VATS; vat++) {
            for (int what = 0; what < ABOUT_KINDS; what++) {
                d = mix(d, mill.vats.tell(vat, what));
            }
        }
        return d;
    }

    private long digestPairs(long start) {
        long d = start;
        for (int pair = 0; pair < mill.moulds.number; pair++) {
            for (int what = 0; what < MOULD_KINDS; what++) {
                d = mix(d, mill.tellPair(pair, what));
            }
        }
        return d;
    }

    private long digestTeams(long start) {
        long d = start;
        for (int team = 0; team < mill.teams.number; team++) {
            for (int what = 0; what < TOLD_KINDS; what++) {
                d = mix(d, mill.tellTeam(team, what));
            }
        }
        return d;
    }

    private long digestPosts(long start) {
        long d = start;
        for (int place = 0; place < mill.posts.number; place++) {
            for (int what = 0; what < POST_KINDS; what++) {
                d = mix(d, mill.posts.tell(place, what));
            }
        }
        return d;
    }

    private long digestLoft(long start) {
        long d = start;
        for (int mark = 0; mark < MARKS; mark++) {
            for (int grade = 0; grade < GRADES; grade++) {
                d = mix(d, mill.hanging(mark, grade));
            }
        }
        return d;
    }

    /** The four vats and what is in them. */
    private static final class Vats {
        private final int[] pulp = new int[VATS];
        private final int[] beat = new int[VATS];
        private final int[] sort = new int[VATS];

        Vats() {
            Arrays.fill(sort, NONE);
        }

        void becomeLike(Vats other) {
            System.arraycopy(other.pulp, 0, pulp, 0, VATS);
            System.arraycopy(other.beat, 0, beat, 0, VATS);
            System.arraycopy(other.sort, 0, sort, 0, VATS);
        }

        int pulpOf(int vat) {
            return isBelow(vat, VATS) ? pulp[vat] : 0;
        }

        int beatOf(int vat) {
            return isBelow(vat, VATS) ? beat[vat] : 0;
        }

        int sortOf(int vat) {
            return isBelow(vat, VATS) ? sort[vat] : NONE;
        }

        int tell(int vat, int what) {
            switch (what) {
                case 0:
                    return pulpOf(vat);
                case 1:
                    return beatOf(vat);
                default:
                    return sortOf(vat);
            }
        }

        void charge(int vat, int rag, int pounds) {
            if (isBelow(vat, VATS)) {
                pulp[vat] = pounds;
                beat[vat] = 0;
                sort[vat] = rag;
            }
        }

        void takeOut(int vat, int pounds) {
            if (!isBelow(vat, VATS)) {
                return;
            }
            pulp[vat] -= pounds;
            if (pulp[vat] <= 0) {
                charge(vat, NONE, 0);
            }
        }

        int allPulp() {
            int sum = 0;
            for (int vat = 0; vat < VATS; vat++) {
                sum += pulp[vat];
            }
            return sum;
        }

        void beatAll(int water) {
            int beaten = numberWithPulp();
            if (beaten == 0) {
                return;
            }
            int more = 3 * water / beaten;
            for (int vat = 0; vat < VATS; vat++) {
                if (pulp[vat] > 0) {
                    beat[vat] = Math.min(MOST_BEAT, beat[vat] + more);
                }
            }
        }

        private int numberWithPulp() {
            int number = 0;
            for (int vat = 0; vat < VATS; vat++) {
                if (pulp[vat] > 0) {
                    number++;
                }
            }
            return number;
        }
    }

    /** The pairs of moulds, in the order of their coming. */
    private static final class Moulds {
        private int number = 0;
        private final int[] mark = new int[MOST_PAIRS];
        private final int[] size = new int[MOST_PAIRS];
        private final int[] worn = new int[MOST_PAIRS];

        void becomeLike(Moulds other) {
            number = other.number;
            System.arraycopy(other.mark, 0, mark, 0, MOST_PAIRS);
            System.arraycopy(other.size, 0, size, 0, MOST_PAIRS);
            System.arraycopy(other.worn, 0, worn, 0, MOST_PAIRS);
        }

        boolean has(int pair) {
            return pair >= 0 && pair < number && pair < MOST_PAIRS;
        }

        int add(int newMark, int newSize) {
            if (number >= MOST_PAIRS) {
                return NONE;
            }
            mark[number] = newMark;
            size[number] = newSize;
            worn[number] = 0;
            number++;
            return number - 1;
        }

        int markOf(int pair) {
            return has(pair) ? mark[pair] : 0;
        }

        int sizeOf(int pair) {
            return has(pair) ? size[pair] : 1;
        }

        int wornOf(int pair) {
            return has(pair) ? worn[pair] : 0;
        }

        void makeNew(int pair) {
            if (has(pair)) {
                worn[pair] = 0;
            }
        }

        void wearBySheets(int pair, int sheets) {
            if (has(pair)) {
                worn[pair] = Math.min(MOST_WORN, worn[pair] + (sheets + 1) / 2);
            }
        }
    }

    /** The teams, in the order of their coming. */
    private static final class Teams {
        private int number = 0;
        private final int[] skill = new int[MOST_TEAMS];
        private final int[] vat = new int[MOST_TEAMS];
        private final int[] pair = new int[MOST_TEAMS];

        void becomeLike(Teams other) {
            number = other.number;
            System.arraycopy(other.skill, 0, skill, 0, MOST_TEAMS);
            System.arraycopy(other.vat, 0, vat, 0, MOST_TEAMS);
            System.arraycopy(other.pair, 0, pair, 0, MOST_TEAMS);
        }

        boolean has(int team) {
            return team >= 0 && team < number && team < MOST_TEAMS;
        }

        int add(int newSkill) {
            if (number >= MOST_TEAMS) {
                return NONE;
            }
            skill[number] = newSkill;
            vat[number] = NONE;
            pair[number] = NONE;
            number++;
            return number - 1;
        }

        int skillOf(int team) {
            return has(team) ? skill[team] : 0;
        }

        int vatOf(int team) {
            return has(team) ? vat[team] : NONE;
        }

        int pairOf(int team) {
            return has(team) ? pair[team] : NONE;
        }

        void send(int team, int newVat, int newPair) {
            if (has(team)) {
                vat[team] = newVat;
                pair[team] = newPair;
            }
        }

        int holderOf(int wanted) {
            if (wanted == NONE) {
                return NONE;
            }
            for (int team = 0; team < number; team++) {
                if (pairOf(team) == wanted) {
                    return team;
                }
            }
            return NONE;
        }
    }

    /** The row of posts; each holds a sheet at least on a felt of its own, so there are never more than felts. */
    private static final class Posts {
        private int number = 0;
        private int allSheets = 0;
        private final int[] mark = new int[MOST_FELTS];
        private final int[] grade = new int[MOST_FELTS];
        private final int[] sheets = new int[MOST_FELTS];

        void becomeLike(Posts other) {
            number = other.number;
            allSheets = other.allSheets;
            System.arraycopy(other.mark, 0, mark, 0, MOST_FELTS);
            System.arraycopy(other.grade, 0, grade, 0, MOST_FELTS);
            System.arraycopy(other.sheets, 0, sheets, 0, MOST_FELTS);
        }

        boolean has(int place) {
            return place >= 0 && place < number && place < MOST_FELTS;
        }

        void add(int newMark, int newGrade, int newSheets) {
            if (number < MOST_FELTS) {
                mark[number] = newMark;
                grade[number] = newGrade;
                sheets[number] = newSheets;
                number++;
                allSheets += newSheets;
            }
        }

        int tell(int place, int what) {
            switch (what) {
                case 0:
                    return markOf(place);
                case 1:
                    return gradeOf(place);
                default:
                    return sheetsOf(place);
            }
        }

        int markOf(int place) {
            return has(place) ? mark[place] : 0;
        }

        int gradeOf(int place) {
            return has(place) ? grade[place] : 0;
        }

        int sheetsOf(int place) {
            return has(place) ? sheets[place] : 0;
        }

        void takeOff(int place, int taken) {
            if (has(place)) {
                sheets[place] -= taken;
                allSheets -= taken;
            }
        }

        void dropEmptyOnes() {
            int kept = 0;
            for (int place = 0; place < number && place < MOST_FELTS; place++) {
                if (sheets[place] > 0) {
                    mark[kept] = mark[place];
                    grade[kept] = grade[place];
                    sheets[kept] = sheets[place];
                    kept++;
                }
            }
            number = kept;
        }
    }

    /** All that the mill is at one time, and how it lives a day. */
    private static final class Mill {
        private int day = 0;
        private int coins = FIRST_COINS;
        private int felts = FIRST_FELTS;
        private int made = 0;
        private int worth = 0;
        private final int[] rags = new int[SORTS];
        private final int[] water = new int[DAYS_OF_TABLE];
        private final Vats vats = new Vats();
        private final Moulds moulds = new Moulds();
        private final Teams teams = new Teams();
        private final Posts posts = new Posts();
        private final int[] loft = new int[MARKS * GRADES];

        Mill() {
            Arrays.fill(rags, FIRST_POUNDS);
            Arrays.fill(water, FIRST_WATER);
        }

        void becomeLike(Mill other) {
            day = other.day;
            coins = other.coins;
            felts = other.felts;
            made = other.made;
            worth = other.worth;
            System.arraycopy(other.rags, 0, rags, 0, SORTS);
            System.arraycopy(other.water, 0, water, 0, DAYS_OF_TABLE);
            vats.becomeLike(other.vats);
            moulds.becomeLike(other.moulds);
            teams.becomeLike(other.teams);
            posts.becomeLike(other.posts);
            System.arraycopy(other.loft, 0, loft, 0, MARKS * GRADES);
        }

        int takeIn(int ware, int many) {
            if (!isBelow(ware, SORTS)) {
                felts += many;
                return felts;
            }
            rags[ware] += many;
            return rags[ware];
        }

        int freeFelts() {
            return felts - posts.allSheets;
        }

        int hanging(int mark, int grade) {
            return isBelow(mark, MARKS) && isBelow(grade, GRADES) ? loft[mark * GRADES + grade] : 0;
        }

        void hang(int mark, int grade, int sheets) {
            if (isBelow(mark, MARKS) && isBelow(grade, GRADES)) {
                loft[mark * GRADES + grade] += sheets;
            }
        }

        int tell(int what) {
            switch (what) {
                case 0:
                    return day;
                case 1:
                    return coins;
                case 2:
                    return felts;
                case 3:
                    return freeFelts();
                case 4:
                    return made;
                case 5:
                    return worth;
                case 6:
                    return posts.number;
                case 7:
                    return allHanging();
                case 8:
                    return vats.allPulp();
                default:
                    return poundsOf(what - 9);
            }
        }

        int tellPair(int pair, int what) {
            switch (what) {
                case 0:
                    return moulds.markOf(pair);
                case 1:
                    return moulds.sizeOf(pair);
                case 2:
                    return moulds.wornOf(pair);
                default:
                    return teams.holderOf(pair);
            }
        }

        int tellTeam(int team, int what) {
            switch (what) {
                case 0:
                    return teams.skillOf(team);
                case 1:
                    return teams.vatOf(team);
                case 2:
                    return teams.pairOf(team);
                default:
                    return sheetsOf(team);
            }
        }

        int sheetsOf(int team) {
            int vat = teams.vatOf(team);
            int pair = teams.pairOf(team);
            if (vat == NONE || pair == NONE || vats.beatOf(vat) < BEAT_FOR_SHEETS) {
                return 0;
            }
            int size = moulds.sizeOf(pair);
            if (size < 1) {
                return 0;
            }
            int sheets = Math.min(teams.skillOf(team), freeFelts());
            return Math.min(sheets, vats.pulpOf(vat) / size);
        }

        void liveDays(int days) {
            for (int i = 0; i < days; i++) {
                liveDay();
            }
        }

        void liveDay() {
            vats.beatAll(water[Math.floorMod(day, DAYS_OF_TABLE)]);
            for (int team = 0; team < teams.number; team++) {
                makeSheets(team);
            }
            pressPosts();
            day++;
        }

        private void makeSheets(int team) {
            int sheets = sheetsOf(team);
            if (sheets < 1) {
                return;
            }
            int vat = teams.vatOf(team);
            int pair = teams.pairOf(team);
            int grade = gradeOf(vat, pair);
            posts.add(moulds.markOf(pair), grade, sheets);
            made += sheets;
            worth += sheets * worthOf(grade);
            vats.takeOut(vat, sheets * moulds.sizeOf(pair));
            moulds.wearBySheets(pair, sheets);
        }

        private int gradeOf(int vat, int pair) {
            int points = vats.beatOf(vat) / 10 + pointsOf(vats.sortOf(vat)) - moulds.wornOf(pair) / 10;
            if (points >= FINE_POINTS) {
                return FINE;
            }
            return points >= PLAIN_POINTS ? PLAIN : COARSE;
        }

        private static int pointsOf(int sort) {
            return isBelow(sort, SORTS) ? SORT_POINTS[sort] : 0;
        }

        private void pressPosts() {
            int left = PRESSED_A_DAY;
            for (int place = 0; place < posts.number && left > 0; place++) {
                int taken = Math.min(left, posts.sheetsOf(place));
                hang(posts.markOf(place), posts.gradeOf(place), taken);
                posts.takeOff(place, taken);
                left -= taken;
            }
            posts.dropEmptyOnes();
        }

        private int allHanging() {
            int sum = 0;
            for (int i = 0; i < loft.length; i++) {
                sum += loft[i];
            }
            return sum;
        }

        private int poundsOf(int sort) {
            return isBelow(sort, SORTS) ? rags[sort] : 0;
        }
    }
}
