import java.util.Arrays;

/** Beards are bonds: men whose beards grow week by week, and their vows of inches. */
public final class BeardsAreBonds {
    public static final int NONE = -1, BAD = -2, STATE = -3, FULL = -4;
    public static final long NO = -4611686018427387904L;

    private static final int NO_MAN = -5, NO_VOW = -6, NOT_SO = -7, NO_NET = -1000005;
    private static final int NOTHING = -11, OUTSIDE = -12, UNLIKE = -13, BELOW_ZERO = -14;
    private static final int FAULT_BASE = -100;

    private static final int MOST_MEN = 6, MOST_VOWS = 8, MOST_TEXTS = 6, TAPE_SIZE = 160;
    private static final int LAST_KIND = 5, LAST_DIGIT = 9, LONGEST = 999, LAST_WEEK = 999;
    private static final int MOST_INCHES = 200, MOST_COUNTED = 1998, SEASON = 60, YEAR = 52;
    private static final int SHEETS = 4, SHEET_SIZE = 40, LAST_SORT = 2, MOST_OFFERS = 6;
    private static final int LAST_SEED = 99999, MOST_SEEDS = 20;
    private static final long LOT_TIMES = 48271L, LOT_MODULO = 2147483647L;

    private static final int STANDS = 0, PAID = 1, BROKEN = 2, CLEARED = 3;
    private static final int GROWS = 0, TRIMS = 1, SHAMES = 2, PARTS = 3, MOST_SAID = 99;
    private static final int MAN = 0, GREY = 1, YOUNG = 2, HERMIT = 3, GLUED = 4, WINTRY = 5;
    private static final int MISSING = -1, BYTES = 0, SHORTS = 1;

    // Tokens and code: a number is itself (0 or more), all else is below 0.
    private static final int NAME_BEARD = -1, NAME_OIL = -2, NAME_MORE = -3, NAME_WEEK = -4,
        NAME_OWED = -5, NAME_RANK = -6, NAMES = 6;
    private static final int OP_OR = -10, OP_AND = -11, OP_LESS = -12, OP_EQUAL = -13,
        OP_PLUS = -14, OP_MINUS = -15, OP_TIMES = -16, OP_NOT = -17, OP_NEGATE = -18;
    private static final int KEY_GROWS = -20, KEY_TRIMS = -21, KEY_SHAMES = -22;
    private static final int SIGN_OPEN = -30, SIGN_CLOSE = -31, SIGN_END = -32;
    private static final int NO_TOKEN = -40, TEXT_END = -41;
    private static final int MOST_DIGITS = 4, MOST_OPEN = 5, STACK_SIZE = 64;

    private final Scribe scribe;
    private final Reader reader;
    private final Town now;
    private final Town thought;
    private final Town kept;
    private boolean imaged;
    private final Sheet[] sheets;
    // men in thought: one whose beard grows, one who is otherwise than he is
    private final Man ghost;
    private final Man twin;
    private final Barber barber;

    public BeardsAreBonds() {
        scribe = new Scribe();
        reader = new Reader();
        now = new Town(scribe);
        thought = new Town(scribe);
        kept = new Town(scribe);
        imaged = false;
        sheets = new Sheet[SHEETS];
        for (int s = 0; s < sheets.length; s++) {
            sheets[s] = new Sheet();
        }
        ghost = new Man();
        twin = new Man();
        barber = new Barber();
    }

    // ---- the law

    public int count(int what) {
        switch (what) {
            case 0: return now.menHere;
            case 1: return now.vowsHere;
            case 2: return now.week;
            case 3: return scribe.texts;
            case 4: return now.law;
            case 5: return reader.size;
            default: return BAD;
        }
    }

    public int feed(int n, int a, int b, int c, int d, int e) {
        if (n < 1 || n > 5 || !isByte(a) || !isByte(b) || !isByte(c) || !isByte(d) || !isByte(e)) {
            return BAD;
        }
        if (reader.size + n > TAPE_SIZE) {
            return FULL;
        }
        reader.add(a);
        if (n > 1) {
            reader.add(b);
        }
        if (n > 2) {
            reader.add(c);
        }
        if (n > 3) {
            reader.add(d);
        }
        if (n > 4) {
            reader.add(e);
        }
        return reader.size;
    }

    public int text() {
        if (scribe.texts >= MOST_TEXTS) {
            return FULL;
        }
        int fault = reader.read();
        reader.size = 0;
        if (fault >= 0) {
            return FAULT_BASE - fault;
        }
        return scribe.add(new Text(reader.codeOf(GROWS), reader.codeOf(TRIMS), reader.codeOf(SHAMES)));
    }

    public int force(int t) {
        if (t < 0 || t >= scribe.texts) {
            return BAD;
        }
        int was = now.law;
        now.law = t;
        return was;
    }

    public int asks(int part, int m, int at) {
        Man man = now.manAt(m);
        if (part < 0 || part >= PARTS || man == null || at < 0 || at > LAST_WEEK) {
            return BAD;
        }
        return scribe.says(now.law, part, man, at, now.owed(m));
    }

    // ---- men

    public int man(int kind, int more, int inches) {
        return now.addMan(kind, more, inches);
    }

    public int set(int m, int what, int v) {
        Man man = now.manAt(m);
        if (man == null) {
            return NO_MAN;
        }
        if (what < 0 || what > 2 || v < 0 || v > (what == 0 ? LONGEST : LAST_DIGIT)) {
            return NOT_SO;
        }
        int was;
        if (what == 0) {
            was = man.beard;
            man.beard = v;
        } else if (what == 1) {
            was = man.oil;
            man.oil = v;
        } else {
            was = man.rank;
            man.rank = v;
        }
        return was;
    }

    public int told(int m, int what) {
        Man man = now.manAt(m);
        if (man == null) {
            return NO_MAN;
        }
        switch (what) {
            case 0: return man.kind;
            case 1: return man.more;
            case 2: return man.beard;
            case 3: return man.oil;
            case 4: return man.rank;
            case 5: return man.shorn ? 1 : 0;
            case 6: return man.counts();
            case 7: return man.grace();
            case 8: return now.owed(m);
            default: return NOT_SO;
        }
    }

    // ---- vows

    public int vow(int fromTo, int much, int at) {
        int from = fromTo / 10;
        int to = fromTo % 10;
        Man man = now.manAt(from);
        if (man == null || now.manAt(to) == null || from == to) {
            return BAD;
        }
        if (much < 1 || much > MOST_INCHES || at < 0 || at > LAST_WEEK) {
            return BAD;
        }
        if (man.shorn || at < now.week) {
            return STATE;
        }
        return now.addVow(from, to, much, at);
    }

    public int bond(int v, int what) {
        Vow vow = now.vowAt(v);
        if (vow == null) {
            return NO_VOW;
        }
        switch (what) {
            case 0: return vow.from;
            case 1: return vow.to;
            case 2: return vow.inches;
            case 3: return vow.due;
            case 4: return vow.plait;
            case 5: return vow.state;
            case 6: return now.matures(vow);
            default: return NOT_SO;
        }
    }

    public int plaits(int v, int w) {
        Vow one = now.vowAt(v);
        Vow two = now.vowAt(w);
        if (one == null || two == null || v == w) {
            return NO_VOW;
        }
        if (one.state != STANDS || two.state != STANDS || one.plait >= 0 || two.plait >= 0) {
            return STATE;
        }
        if (one.from != two.from) {
            return STATE;
        }
        one.plait = w;
        two.plait = v;
        return now.matures(one);
    }

    public int pass(int v, int m) {
        Vow vow = now.vowAt(v);
        if (vow == null) {
            return NO_VOW;
        }
        if (now.manAt(m) == null || vow.from == m) {
            return NO_MAN;
        }
        if (vow.state != STANDS) {
            return STATE;
        }
        int was = vow.to;
        vow.to = m;
        return was;
    }

    // ---- weeks

    public int live() {
        if (now.week >= LAST_WEEK) {
            return FULL;
        }
        now.startTally();
        now.liveWeek(0);
        return now.shornMen;
    }

    public int run(int n, int what) {
        if (n < 0 || n > SEASON) {
            return BAD;
        }
        thought.become(now);
        thought.startTally();
        for (int nth = 0; nth < n; nth++) {
            thought.liveWeek(nth);
        }
        return ofSeason(what);
    }

    private int ofSeason(int what) {
        switch (what) {
            case 0: return thought.shornMen;
            case 1: return thought.firstShorn;
            case 2: return thought.firstWeek;
            case 3: return thought.inchesPaid;
            case 4: return thought.shames;
            default: break;
        }
        Man man = thought.manAt(what - 10);
        if (man != null) {
            return man.beard;
        }
        Vow vow = thought.vowAt(what - 20);
        return vow == null ? NOT_SO : vow.state;
    }

    public int ripe(int m, int much) {
        Man man = now.manAt(m);
        if (man == null) {
            return NO_MAN;
        }
        if (much < 0 || much > MOST_COUNTED) {
            return NOT_SO;
        }
        return ripeWeek(man, much, now.owed(m));
    }

    public int soonest(int m, int much) {
        Man man = now.manAt(m);
        if (man == null) {
            return NO_MAN;
        }
        if (much < 1 || much > MOST_INCHES) {
            return NOT_SO;
        }
        return man.shorn ? NONE : ripeWeek(man, much, now.owed(m));
    }

    private int ripeWeek(Man man, int much, int owed) {
        ghost.become(man);
        for (int nth = 0; nth < SEASON; nth++) {
            ghost.beard = scribe.grown(now.law, ghost, now.week + nth, owed);
            if (ghost.counts() >= much) {
                return nth;
            }
        }
        return NONE;
    }

    // ---- offers

    public int take(int s, int m, int what) {
        Sheet sheet = sheetAt(s);
        if (sheet == null) {
            return BAD;
        }
        if (sheet.sort == MISSING) {
            return NOTHING;
        }
        if (!sheet.tellsOffers()) {
            return BAD;
        }
        Man man = now.manAt(m);
        if (man == null) {
            return NO_MAN;
        }
        if (what < 0 || what > 1) {
            return NOT_SO;
        }
        if (man.shorn) {
            return 0;
        }
        return bestOffers(sheet, man, now.owed(m), what);
    }

    private int bestOffers(Sheet sheet, Man man, int owed, int what) {
        int best = 0;
        int most = 0;
        int sets = 1 << Math.min(MOST_OFFERS, sheet.size / 2);
        for (int set = 1; set < sets; set++) {
            int inches = sheet.inchesOf(set);
            if (inches > most && canTake(sheet, set, man, owed)) {
                best = set;
                most = inches;
            }
        }
        return what == 0 ? best : most;
    }

    /** Offers are no vows yet: what he owes stays as it is now. */
    private boolean canTake(Sheet sheet, int set, Man man, int owed) {
        ghost.become(man);
        int last = sheet.lastWeekOf(set);
        for (int nth = 0; nth <= last && nth < SEASON; nth++) {
            int week = now.week + nth;
            ghost.beard = scribe.grown(now.law, ghost, week, owed);
            for (int i = 0; i < MOST_OFFERS; i++) {
                if ((set >> i & 1) == 0 || sheet.number(2 * i + 1) != nth) {
                    continue;
                }
                int inches = sheet.number(2 * i);
                if (ghost.counts() < inches) {
                    return false;
                }
                ghost.cut(inches + scribe.says(now.law, TRIMS, ghost, week, owed));
            }
        }
        return true;
    }

    // ---- rings, credit

    public int ring(int what) {
        if (what < 0 || what > 1) {
            return BAD;
        }
        int ring = now.firstRing();
        return what == 0 ? ring : now.leastInches(ring);
    }

    public int clear() {
        int less = 0;
        // each clearing clears a vow at least
        for (int i = 0; i < MOST_VOWS; i++) {
            int ring = now.firstRing();
            if (ring == 0) {
                break;
            }
            less += now.clearRing(ring);
        }
        return less;
    }

    public int net(int m) {
        if (now.manAt(m) == null) {
            return NO_NET;
        }
        return now.owedTo(m, 0) - now.owed(m);
    }

    public int falls(int first, int what) {
        if (first < 0 || first >= 1 << now.menHere || what < 0 || what > 1) {
            return BAD;
        }
        return falling(first, what);
    }

    public int pillar(int what) {
        if (what < 0 || what > 1) {
            return BAD;
        }
        int best = NONE;
        int most = NONE;
        for (int m = 0; m < now.menHere; m++) {
            int fallen = Integer.bitCount(falling(1 << m, 0));
            if (fallen > most) {
                best = m;
                most = fallen;
            }
        }
        return what == 0 ? best : most;
    }

    /** Who has fallen at last (what 0), behind how many steps (1). */
    private int falling(int first, int what) {
        int fallen = first;
        int steps = 0;
        for (int i = 0; i < MOST_MEN; i++) {
            int next = now.fallenNext(fallen);
            if (next == fallen) {
                break;
            }
            fallen = next;
            steps++;
        }
        return what == 0 ? fallen : steps;
    }

    // ---- the barber's day

    public int day(int goal, int what) {
        if (goal < 0 || goal > 1 || what < 0 || what > 1) {
            return BAD;
        }
        barber.waiting = 0;
        for (int m = 0; m < now.menHere; m++) {
            Man man = now.manAt(m);
            if (man != null && !man.shorn) {
                int minutes = scribe.says(now.law, TRIMS, man, now.week, now.owed(m)) + 1;
                barber.expect(m, minutes, goal == 0 ? 1 : man.rank);
            }
        }
        barber.findBest();
        return what == 0 ? barber.least : barber.order;
    }

    // ---- told clippings

    public int judge(int s, int m) {
        int refusal = refusalOf(s, m);
        return refusal != 0 ? refusal : otherwise(sheetAt(s), m, now.manAt(m), now.week, now.law);
    }

    public int kinds(int s, int m, int sort) {
        int refusal = refusalOf(s, m);
        if (refusal != 0) {
            return refusal;
        }
        if (sort < 0 || sort > 2) {
            return NOT_SO;
        }
        int bits = 0;
        int last = sort == 0 ? LAST_KIND : LAST_DIGIT;
        for (int v = 0; v <= last; v++) {
            twin.become(now.manAt(m));
            if (sort == 0) {
                twin.kind = v;
            } else if (sort == 1) {
                twin.more = v;
            } else {
                twin.oil = v;
            }
            if (otherwise(sheetAt(s), m, twin, now.week, now.law) == NONE) {
                bits |= 1 << v;
            }
        }
        return bits;
    }

    public long since(int s, int m) {
        if (refusalOf(s, m) != 0) {
            return NO;
        }
        long bits = 0;
        for (int week = 0; week < YEAR; week++) {
            if (otherwise(sheetAt(s), m, now.manAt(m), week, now.law) == NONE) {
                bits |= 1L << week;
            }
        }
        return bits;
    }

    public int laws(int s, int m) {
        int refusal = refusalOf(s, m);
        if (refusal != 0) {
            return refusal;
        }
        int bits = 0;
        for (int t = 0; t < scribe.texts; t++) {
            if (otherwise(sheetAt(s), m, now.manAt(m), now.week, t) == NONE) {
                bits |= 1 << t;
            }
        }
        return bits;
    }

    public int whose(int s) {
        int refusal = refusalOf(s);
        if (refusal != 0) {
            return refusal;
        }
        int bits = 0;
        for (int m = 0; m < now.menHere; m++) {
            if (otherwise(sheetAt(s), m, now.manAt(m), now.week, now.law) == NONE) {
                bits |= 1 << m;
            }
        }
        return bits;
    }

    public int film(int s, int m, int n) {
        Sheet sheet = sheetAt(s);
        if (sheet == null) {
            return BAD;
        }
        Man man = now.manAt(m);
        if (man == null) {
            return NO_MAN;
        }
        if (n < 0 || n > SHEET_SIZE) {
            return NOT_SO;
        }
        sheet.makeRow(SHORTS, n);
        ghost.become(man);
        int owed = now.owed(m);
        for (int i = 0; i < n; i++) {
            ghost.beard = scribe.grown(now.law, ghost, now.week + i, owed);
            sheet.put(i, ghost.beard);
        }
        return n;
    }

    /** Why a clipping can't be told of: 0, if it can. */
    private int refusalOf(int s, int m) {
        int refusal = refusalOf(s);
        return refusal == 0 && now.manAt(m) == null ? NO_MAN : refusal;
    }

    private int refusalOf(int s) {
        Sheet sheet = sheetAt(s);
        if (sheet == null) {
            return BAD;
        }
        return sheet.sort == MISSING ? NOTHING : 0;
    }

    /** The first number that is not the beard of man m, were he as the man told. */
    private int otherwise(Sheet sheet, int m, Man man, int week, int law) {
        if (sheet == null || man == null) {
            return NONE;
        }
        ghost.become(man);
        int owed = now.owed(m);
        for (int i = 0; i < sheet.size; i++) {
            ghost.beard = scribe.grown(law, ghost, week + i, owed);
            if (ghost.beard != sheet.number(i)) {
                return i;
            }
        }
        return NONE;
    }

    // ---- seasons by lots

    public int drawn(int seed, int n, int what) {
        if (seed < 0 || seed > LAST_SEED || n < 0 || n > SEASON || what < 0 || what > 2) {
            return BAD;
        }
        liveByLots(seed, n);
        if (what == 0) {
            return thought.shornMen;
        }
        return what == 1 ? thought.inchesPaid : thought.shames;
    }

    public long odds(int seed, int seeds, int n, int part) {
        if (seed < 0 || seed > LAST_SEED || seeds < 1 || seeds > MOST_SEEDS) {
            return NO;
        }
        if (n < 0 || n > SEASON || part < 0 || part > 1) {
            return NO;
        }
        int good = 0;
        for (int i = 0; i < seeds; i++) {
            liveByLots(seed + i, n);
            if (thought.shornMen == 0) {
                good++;
            }
        }
        int divisor = commonDivisor(good, seeds);
        if (divisor == 0) {
            return NO;
        }
        return (part == 0 ? good : seeds) / divisor;
    }

    private void liveByLots(int seed, int n) {
        thought.become(now);
        thought.startTally();
        long lot = seed + 1L;
        for (int nth = 0; nth < n; nth++) {
            lot = thought.drawOil(lot);
            thought.liveWeek(nth);
        }
    }

    /** The greatest divisor of both; b is not more than 20. */
    private static int commonDivisor(int a, int b) {
        for (int d = b; d > 1; d--) {
            if (a % d == 0 && b % d == 0) {
                return d;
            }
        }
        return 1;
    }

    public int image() {
        kept.become(now);
        imaged = true;
        return now.menHere;
    }

    public int back() {
        if (!imaged) {
            return STATE;
        }
        now.become(kept);
        return now.menHere;
    }

    // ---- the host

    public int sheet(int s, int sort, int n) {
        Sheet sheet = sheetAt(s);
        if (sheet == null || sort < MISSING || sort > LAST_SORT) {
            return BAD;
        }
        if (sort == MISSING) {
            sheet.makeRow(MISSING, 0);
            return 1;
        }
        if (n > SHEET_SIZE) {
            return BAD;
        }
        if (n < 0) {
            return BELOW_ZERO;
        }
        sheet.makeRow(sort, n);
        return 1;
    }

    public int cell(int s, int i, int v) {
        Sheet sheet = sheetAt(s);
        if (sheet == null) {
            return BAD;
        }
        if (sheet.sort == MISSING) {
            return NOTHING;
        }
        if (i < 0 || i >= sheet.size) {
            return OUTSIDE;
        }
        sheet.put(i, v);
        return 1;
    }

    public int copy(int s, int i, int other, int j, int n) {
        Sheet from = sheetAt(s);
        Sheet to = sheetAt(other);
        if (from == null || to == null) {
            return BAD;
        }
        if (from.sort == MISSING || to.sort == MISSING) {
            return NOTHING;
        }
        if (from.sort != to.sort) {
            return UNLIKE;
        }
        if (!from.holds(i, n) || !to.holds(j, n)) {
            return OUTSIDE;
        }
        System.arraycopy(from.numbers, i, to.numbers, j, n);
        return n;
    }

    public int menBy(int s, int sort, int at, int n) {
        Sheet sheet = sheetAt(s);
        if (sheet == null || sort < 0 || sort > LAST_SORT || n < 0 || n > MOST_MEN) {
            return BAD;
        }
        if (sheet.sort == MISSING) {
            return NOTHING;
        }
        if (sheet.sort != sort) {
            return UNLIKE;
        }
        int came = 0;
        for (int k = 0; k < n; k++) {
            if (!sheet.holds(at, 3 * k + 3)) {
                return OUTSIDE;
            }
            int p = at + 3 * k;
            if (now.addMan(sheet.number(p), sheet.number(p + 1), sheet.number(p + 2)) >= 0) {
                came++;
            }
        }
        return came;
    }

    public int taken(int i, int kind) {
        if (kind < 0 || kind > LAST_KIND + 1) {
            return BAD;
        }
        if (i < 0 || i >= MOST_MEN + MOST_VOWS) {
            return OUTSIDE;
        }
        Man man = now.manAt(i);
        Vow vow = now.vowAt(i - MOST_MEN);
        if (man != null) {
            return kind <= LAST_KIND && man.isOne(kind) ? i : UNLIKE;
        }
        if (vow != null) {
            return kind > LAST_KIND ? vow.inches : UNLIKE;
        }
        return NOTHING;
    }

    private Sheet sheetAt(int s) {
        return s >= 0 && s < sheets.length ? sheets[s] : null;
    }

    private static boolean isByte(int b) {
        return b >= 0 && b <= 255;
    }

    /** A man; what depends on his kind alone stands here. */
    private static final class Man {
        int kind, more, beard, oil, rank;
        boolean shorn;

        void become(Man from) {
            if (from == null) {
                return;
            }
            kind = from.kind;
            more = from.more;
            beard = from.beard;
            oil = from.oil;
            rank = from.rank;
            shorn = from.shorn;
        }

        /** How much the beard grows in a week, the text saying so much. */
        int growth(int week, int said) {
            switch (kind) {
                case GREY: return said / 2;
                case YOUNG: return growthOfYoung(week, said);
                case HERMIT: return said / 2 + more / 3;
                case GLUED: return week % 4 == 3 ? 0 : growthOfYoung(week, said) + 2;
                case WINTRY: return isWinter(week) ? said / 3 : said + more / 2;
                default: return said;
            }
        }

        private int growthOfYoung(int week, int said) {
            return week < 2 * more ? 0 : said + 1;
        }

        private static boolean isWinter(int week) {
            return week % YEAR < 10 || week % YEAR > 42;
        }

        /** For how much the beard counts. */
        int counts() {
            switch (kind) {
                case GREY: return 2 * beard;
                case HERMIT: return 2 * beard;
                case GLUED: return Math.max(0, beard * (9 - more) / 10);
                default: return beard;
            }
        }

        int grace() {
            switch (kind) {
                case YOUNG: return 1;
                case GLUED: return 1;
                case HERMIT: return 4;
                default: return 0;
            }
        }

        /** Whether he is a man of that kind, a kind below it too. */
        boolean isOne(int taken) {
            return taken == MAN || taken == kind
                || taken == GREY && kind == HERMIT || taken == YOUNG && kind == GLUED;
        }

        void cut(int inches) {
            beard = Math.max(0, beard - inches);
        }
    }

    private static final class Vow {
        int from, to, inches, due, state;
        int plait = NONE;

        void become(Vow vow) {
            from = vow.from;
            to = vow.to;
            inches = vow.inches;
            due = vow.due;
            state = vow.state;
            plait = vow.plait;
        }
    }

    /** The men, the vows, the week, the law: as they are, in thought, or in an image. */
    private static final class Town {
        final Scribe scribe;
        final Man[] men = new Man[MOST_MEN];
        final Vow[] vows = new Vow[MOST_VOWS];
        int menHere, vowsHere, week, law;
        // what has come to pass since the tally was started
        int shornMen, firstShorn, firstWeek, inchesPaid, shames;

        Town(Scribe scribe) {
            this.scribe = scribe;
            for (int m = 0; m < men.length; m++) {
                men[m] = new Man();
            }
            for (int v = 0; v < vows.length; v++) {
                vows[v] = new Vow();
            }
        }

        void become(Town town) {
            menHere = town.menHere;
            vowsHere = town.vowsHere;
            week = town.week;
            law = town.law;
            for (int m = 0; m < men.length && m < town.men.length; m++) {
                men[m].become(town.men[m]);
            }
            for (int v = 0; v < vows.length && v < town.vows.length; v++) {
                vows[v].become(town.vows[v]);
            }
        }

        /** The man of that number, null: there is none. */
        Man manAt(int m) {
            return m >= 0 && m < menHere && m < men.length ? men[m] : null;
        }

        /** The vow of that number, null: there is none. */
        Vow vowAt(int v) {
            return v >= 0 && v < vowsHere && v < vows.length ? vows[v] : null;
        }

        int addMan(int kind, int more, int inches) {
            if (kind < 0 || kind > LAST_KIND || more < 0 || more > LAST_DIGIT) {
                return BAD;
            }
            if (inches < 0 || inches > LONGEST) {
                return BAD;
            }
            if (menHere < 0 || menHere >= men.length) {
                return FULL;
            }
            Man man = men[menHere];
            man.kind = kind;
            man.more = more;
            man.beard = inches;
            man.oil = 0;
            man.rank = 0;
            man.shorn = false;
            menHere++;
            return menHere - 1;
        }

        int addVow(int from, int to, int inches, int due) {
            if (vowsHere < 0 || vowsHere >= vows.length) {
                return FULL;
            }
            Vow vow = vows[vowsHere];
            vow.from = from;
            vow.to = to;
            vow.inches = inches;
            vow.due = due;
            vow.state = STANDS;
            vow.plait = NONE;
            vowsHere++;
            return vowsHere - 1;
        }

        int owed(int m) {
            int sum = 0;
            for (int v = 0; v < vowsHere && v < vows.length; v++) {
                if (vows[v].state == STANDS && vows[v].from == m) {
                    sum += vows[v].inches;
                }
            }
            return sum;
        }

        /** What stands to a man, but from those left out (bits). */
        int owedTo(int m, int leftOut) {
            int sum = 0;
            for (int v = 0; v < vowsHere && v < vows.length; v++) {
                if (vows[v].state == STANDS && vows[v].to == m && (leftOut >> vows[v].from & 1) == 0) {
                    sum += vows[v].inches;
                }
            }
            return sum;
        }

        int matures(Vow vow) {
            Vow with = vowAt(vow.plait);
            return with == null ? vow.due : Math.max(vow.due, with.due);
        }

        void startTally() {
            shornMen = 0;
            firstShorn = NONE;
            firstWeek = NONE;
            inchesPaid = 0;
            shames = 0;
        }

        /** A week, the nth of those that are tallied. */
        void liveWeek(int nth) {
            for (int m = 0; m < menHere && m < men.length; m++) {
                men[m].beard = scribe.grown(law, men[m], week, owed(m));
            }
            for (int v = 0; v < vowsHere && v < vows.length; v++) {
                Vow vow = vows[v];
                if (vow.state == STANDS && matures(vow) <= week && !pays(vow) && isLate(vow)) {
                    shear(vow.from, nth);
                }
            }
            week++;
        }

        /** Has a vow paid, if his beard counts for enough: whether it is. */
        private boolean pays(Vow vow) {
            Man man = manAt(vow.from);
            if (man == null || man.counts() < vow.inches) {
                return false;
            }
            // trims are asked of him as he is ahead of the payment: he owes this vow yet
            man.cut(vow.inches + scribe.says(law, TRIMS, man, week, owed(vow.from)));
            vow.state = PAID;
            inchesPaid += vow.inches;
            return true;
        }

        private boolean isLate(Vow vow) {
            Man man = manAt(vow.from);
            return man != null && week >= matures(vow) + man.grace();
        }

        private void shear(int m, int nth) {
            Man man = manAt(m);
            if (man == null) {
                return;
            }
            shames += scribe.says(law, SHAMES, man, week, owed(m));
            man.shorn = true;
            man.beard = 0;
            for (int v = 0; v < vowsHere && v < vows.length; v++) {
                if (vows[v].state == STANDS && vows[v].from == m) {
                    vows[v].state = BROKEN;
                }
            }
            if (shornMen == 0) {
                firstShorn = m;
                firstWeek = nth;
            }
            shornMen++;
        }

        /** Each man's oil is a lot; the last lot of all. */
        long drawOil(long lastLot) {
            long lot = lastLot;
            for (int m = 0; m < menHere && m < men.length; m++) {
                lot = lot * LOT_TIMES % LOT_MODULO;
                men[m].oil = (int) (lot % 10);
            }
            return lot;
        }

        /** The first ring's vows (bits), 0: there is none. */
        int firstRing() {
            for (int v = 0; v < vowsHere && v < vows.length; v++) {
                if (vows[v].state == STANDS) {
                    int ring = closeRing(this, vows[v].from, vows[v].to, 1 << vows[v].from, 1 << v, 1);
                    if (ring != 0) {
                        return ring;
                    }
                }
            }
            return 0;
        }

        /** The vows so far, and the lowest further ones from man m on that close the ring. */
        private static int closeRing(Town town, int first, int m, int menIn, int vowsIn, int depth) {
            if (m == first) {
                return vowsIn;
            }
            if (depth >= MOST_MEN || (menIn >> m & 1) != 0) {
                return 0;
            }
            for (int v = 0; v < town.vowsHere && v < town.vows.length; v++) {
                Vow vow = town.vows[v];
                if (vow.state == STANDS && vow.from == m) {
                    int ring = closeRing(town, first, vow.to, menIn | 1 << m, vowsIn | 1 << v, depth + 1);
                    if (ring != 0) {
                        return ring;
                    }
                }
            }
            return 0;
        }

        /** The least inches of these vows, 0: there are none. */
        int leastInches(int ring) {
            int least = 0;
            for (int v = 0; v < vowsHere && v < vows.length; v++) {
                if ((ring >> v & 1) != 0 && (least == 0 || vows[v].inches < least)) {
                    least = vows[v].inches;
                }
            }
            return least;
        }

        /** Clears a ring: by how many inches its vows are less, together. */
        int clearRing(int ring) {
            int least = leastInches(ring);
            int less = 0;
            for (int v = 0; v < vowsHere && v < vows.length; v++) {
                if ((ring >> v & 1) == 0) {
                    continue;
                }
                vows[v].inches -= least;
                less += least;
                if (vows[v].inches == 0) {
                    vows[v].state = CLEARED;
                    unplait(vows[v]);
                }
            }
            return less;
        }

        private void unplait(Vow vow) {
            Vow with = vowAt(vow.plait);
            if (with != null) {
                with.plait = NONE;
            }
            vow.plait = NONE;
        }

        /** Who has fallen behind one step more. */
        int fallenNext(int fallen) {
            int next = fallen;
            for (int m = 0; m < menHere && m < men.length; m++) {
                if (men[m].counts() + owedTo(m, fallen) < owed(m)) {
                    next |= 1 << m;
                }
            }
            return next;
        }
    }

    /** A text's three parts, as code: operands ahead of their operator. */
    private static final class Text {
        final int[] grows, trims, shames;

        Text(int[] grows, int[] trims, int[] shames) {
            this.grows = grows;
            this.trims = trims;
            this.shames = shames;
        }

        int[] partOf(int part) {
            if (part == GROWS) {
                return grows;
            }
            return part == TRIMS ? trims : shames;
        }
    }

    /** Keeps the texts, and tells what they say of a man. */
    private static final class Scribe {
        final Text[] all = new Text[MOST_TEXTS];
        int texts;
        private final int[] stack = new int[STACK_SIZE];
        private final int[] names = new int[NAMES];

        Scribe() {
            all[0] = new Text(new int[] {4, NAME_OIL, OP_PLUS}, new int[] {2}, new int[] {10});
            texts = 1;
        }

        int add(Text text) {
            if (texts < 0 || texts >= all.length) {
                return FULL;
            }
            all[texts] = text;
            texts++;
            return texts - 1;
        }

        /** What a part of a text says of a man, who owes so much, in a week. */
        int says(int law, int part, Man man, int week, int owed) {
            Text text = law >= 0 && law < texts && law < all.length ? all[law] : null;
            if (text == null) {
                return 0;
            }
            names[-1 - NAME_BEARD] = man.beard;
            names[-1 - NAME_OIL] = man.oil;
            names[-1 - NAME_MORE] = man.more;
            names[-1 - NAME_WEEK] = week;
            names[-1 - NAME_OWED] = owed;
            names[-1 - NAME_RANK] = man.rank;
            return Math.max(0, Math.min(MOST_SAID, worth(text.partOf(part))));
        }

        /** The beard behind a week's growing. */
        int grown(int law, Man man, int week, int owed) {
            if (man.shorn) {
                return man.beard;
            }
            int growth = Math.max(0, man.growth(week, says(law, GROWS, man, week, owed)));
            return Math.min(LONGEST, man.beard + growth);
        }

        private int worth(int[] code) {
            int top = 0;
            for (int i = 0; i < code.length; i++) {
                int c = code[i];
                if (c > OP_OR) {
                    if (top < 0 || top >= stack.length) {
                        return 0;
                    }
                    stack[top] = operand(c);
                    top++;
                } else if (c == OP_NOT || c == OP_NEGATE) {
                    if (top < 1 || top > stack.length) {
                        return 0;
                    }
                    int a = stack[top - 1];
                    stack[top - 1] = c == OP_NEGATE ? -a : a == 0 ? 1 : 0;
                } else {
                    if (top < 2 || top > stack.length) {
                        return 0;
                    }
                    stack[top - 2] = joined(c, stack[top - 2], stack[top - 1]);
                    top--;
                }
            }
            return stack[0];
        }

        private int operand(int c) {
            if (c >= 0) {
                return c;
            }
            int name = -1 - c;
            return name >= 0 && name < names.length ? names[name] : 0;
        }

        private static int joined(int op, int a, int b) {
            switch (op) {
                case OP_OR: return a != 0 || b != 0 ? 1 : 0;
                case OP_AND: return a != 0 && b != 0 ? 1 : 0;
                case OP_LESS: return a < b ? 1 : 0;
                case OP_EQUAL: return a == b ? 1 : 0;
                case OP_PLUS: return a + b;
                case OP_MINUS: return a - b;
                case OP_TIMES: return a * b;
                default: return 0;
            }
        }
    }

    /** The tape, and the reading of a text from it. */
    private static final class Reader {
        private final int[] tape = new int[TAPE_SIZE];
        int size;
        // the tokens, the last one TEXT_END, and where each begins
        private final int[] token = new int[TAPE_SIZE + 1];
        private final int[] place = new int[TAPE_SIZE + 1];
        private int tokens, at;
        // the code of all parts, one behind the other, and where each part ends
        private final int[] code = new int[TAPE_SIZE];
        private int codeSize;
        private final int[] partEnd = new int[PARTS];

        void add(int b) {
            if (size >= 0 && size < tape.length) {
                tape[size] = b;
                size++;
            }
        }

        int[] codeOf(int part) {
            if (part < 0 || part >= partEnd.length) {
                return new int[0];
            }
            int from = part == 0 ? 0 : partEnd[part - 1];
            int to = partEnd[part];
            boolean right = from >= 0 && from <= to && to <= code.length;
            return right ? Arrays.copyOfRange(code, from, to) : new int[0];
        }

        /** The place of the fault, -1: the tape is a text. */
        int read() {
            splitTape();
            at = 0;
            codeSize = 0;
            boolean stands = readPart(GROWS, KEY_GROWS) && readPart(TRIMS, KEY_TRIMS)
                && readPart(SHAMES, KEY_SHAMES) && current() == TEXT_END;
            if (stands) {
                return -1;
            }
            return at >= 0 && at < place.length ? place[at] : size;
        }

        private void splitTape() {
            tokens = 0;
            int p = 0;
            for (int i = 0; i < TAPE_SIZE && p < size; i++) {
                int b = byteAt(p);
                int end = p + 1;
                if (isLetter(b)) {
                    end = endOfWord(p);
                    addToken(wordToken(p, end), p);
                } else if (isDigit(b)) {
                    end = endOfNumber(p);
                    addToken(numberToken(p, end), p);
                } else if (b != ' ' && b != '\n') {
                    addToken(signToken(b), p);
                }
                p = end;
            }
            addToken(TEXT_END, size);
        }

        private int byteAt(int p) {
            return p >= 0 && p < size && p < tape.length ? tape[p] : -1;
        }

        private static boolean isLetter(int b) {
            return b >= 'a' && b <= 'z';
        }

        private static boolean isDigit(int b) {
            return b >= '0' && b <= '9';
        }

        private int endOfWord(int from) {
            int p = from;
            for (int i = 0; i < TAPE_SIZE && isLetter(byteAt(p)); i++) {
                p++;
            }
            return p;
        }

        private int endOfNumber(int from) {
            int p = from;
            for (int i = 0; i < TAPE_SIZE && isDigit(byteAt(p)); i++) {
                p++;
            }
            return p;
        }

        private void addToken(int what, int where) {
            if (tokens >= 0 && tokens < token.length && tokens < place.length) {
                token[tokens] = what;
                place[tokens] = where;
                tokens++;
            }
        }

        private int numberToken(int from, int to) {
            if (to - from > MOST_DIGITS) {
                return NO_TOKEN;
            }
            int number = 0;
            for (int p = from; p < to; p++) {
                number = number * 10 + byteAt(p) - '0';
            }
            return number;
        }

        private static int signToken(int b) {
            switch (b) {
                case '(': return SIGN_OPEN;
                case ')': return SIGN_CLOSE;
                case ';': return SIGN_END;
                case '+': return OP_PLUS;
                case '-': return OP_MINUS;
                case '*': return OP_TIMES;
                case '<': return OP_LESS;
                case '=': return OP_EQUAL;
                default: return NO_TOKEN;
            }
        }

        private int wordToken(int from, int to) {
            if (isWord("grows", from, to)) {
                return KEY_GROWS;
            }
            if (isWord("trims", from, to)) {
                return KEY_TRIMS;
            }
            if (isWord("shames", from, to)) {
                return KEY_SHAMES;
            }
            if (isWord("or", from, to)) {
                return OP_OR;
            }
            if (isWord("and", from, to)) {
                return OP_AND;
            }
            return isWord("not", from, to) ? OP_NOT : nameToken(from, to);
        }

        private int nameToken(int from, int to) {
            if (isWord("beard", from, to)) {
                return NAME_BEARD;
            }
            if (isWord("oil", from, to)) {
                return NAME_OIL;
            }
            if (isWord("more", from, to)) {
                return NAME_MORE;
            }
            if (isWord("week", from, to)) {
                return NAME_WEEK;
            }
            if (isWord("owed", from, to)) {
                return NAME_OWED;
            }
            return isWord("rank", from, to) ? NAME_RANK : NO_TOKEN;
        }

        private boolean isWord(String word, int from, int to) {
            if (to - from != word.length()) {
                return false;
            }
            for (int i = 0; i < word.length(); i++) {
                if (word.charAt(i) != byteAt(from + i)) {
                    return false;
                }
            }
            return true;
        }

        private int current() {
            return at >= 0 && at < tokens && at < token.length ? token[at] : TEXT_END;
        }

        private boolean skip(int wanted) {
            if (current() != wanted) {
                return false;
            }
            at++;
            return true;
        }

        private void emit(int c) {
            if (codeSize >= 0 && codeSize < code.length) {
                code[codeSize] = c;
                codeSize++;
            }
        }

        // Each of the following reads what it is named for, and answers whether it stands there;
        // if not, the token at which it stopped is the one at fault.

        private boolean readPart(int part, int key) {
            if (!skip(key) || !readOr(0) || !skip(SIGN_END)) {
                return false;
            }
            if (part < 0 || part >= partEnd.length) {
                return false;
            }
            partEnd[part] = codeSize;
            return true;
        }

        private boolean readOr(int open) {
            if (!readAnd(open)) {
                return false;
            }
            for (int i = 0; i < TAPE_SIZE && skip(OP_OR); i++) {
                if (!readAnd(open)) {
                    return false;
                }
                emit(OP_OR);
            }
            return true;
        }

        private boolean readAnd(int open) {
            if (!readNot(open)) {
                return false;
            }
            for (int i = 0; i < TAPE_SIZE && skip(OP_AND); i++) {
                if (!readNot(open)) {
                    return false;
                }
                emit(OP_AND);
            }
            return true;
        }

        private boolean readNot(int open) {
            if (current() == OP_NOT) {
                if (open >= MOST_OPEN) {
                    return false;
                }
                at++;
                boolean stands = readNot(open + 1);
                emit(OP_NOT);
                return stands;
            }
            if (!readSum(open)) {
                return false;
            }
            int sign = current();
            if (sign != OP_LESS && sign != OP_EQUAL) {
                return true;
            }
            at++;
            boolean stands = readSum(open);
            emit(sign);
            return stands;
        }

        private boolean readSum(int open) {
            if (!readTerm(open)) {
                return false;
            }
            for (int i = 0; i < TAPE_SIZE; i++) {
                int sign = current();
                if (sign != OP_PLUS && sign != OP_MINUS) {
                    return true;
                }
                at++;
                if (!readTerm(open)) {
                    return false;
                }
                emit(sign);
            }
            return true;
        }

        private boolean readTerm(int open) {
            if (!readOne(open)) {
                return false;
            }
            for (int i = 0; i < TAPE_SIZE && skip(OP_TIMES); i++) {
                if (!readOne(open)) {
                    return false;
                }
                emit(OP_TIMES);
            }
            return true;
        }

        private boolean readOne(int open) {
            int what = current();
            if (what >= NAME_RANK) {
                emit(what);
                at++;
                return true;
            }
            if (what != OP_MINUS && what != SIGN_OPEN || open >= MOST_OPEN) {
                return false;
            }
            at++;
            if (what == SIGN_OPEN) {
                return readOr(open + 1) && skip(SIGN_CLOSE);
            }
            boolean stands = readOne(open + 1);
            emit(OP_NEGATE);
            return stands;
        }
    }

    /** A row of numbers, or missing. */
    private static final class Sheet {
        final int[] numbers = new int[SHEET_SIZE];
        int sort = MISSING;
        int size;

        void makeRow(int newSort, int newSize) {
            sort = newSort;
            size = newSize;
            Arrays.fill(numbers, 0);
        }

        int number(int i) {
            return i >= 0 && i < size && i < numbers.length ? numbers[i] : 0;
        }

        void put(int i, int v) {
            if (i < 0 || i >= size || i >= numbers.length) {
                return;
            }
            if (sort == BYTES) {
                numbers[i] = (byte) v;
            } else {
                numbers[i] = sort == SHORTS ? (short) v : v;
            }
        }

        /** Whether n numbers from place i on lie inside. */
        boolean holds(int i, int n) {
            return i >= 0 && n >= 0 && n <= size && i <= size - n;
        }

        boolean tellsOffers() {
            if (size % 2 != 0 || size > 2 * MOST_OFFERS) {
                return false;
            }
            for (int i = 0; i < size; i += 2) {
                int inches = number(i);
                int nth = number(i + 1);
                if (inches < 1 || inches > MOST_INCHES || nth < 0 || nth >= SEASON) {
                    return false;
                }
            }
            return true;
        }

        int inchesOf(int set) {
            int sum = 0;
            for (int i = 0; i < MOST_OFFERS; i++) {
                if ((set >> i & 1) != 0) {
                    sum += number(2 * i);
                }
            }
            return sum;
        }

        int lastWeekOf(int set) {
            int last = 0;
            for (int i = 0; i < MOST_OFFERS; i++) {
                if ((set >> i & 1) != 0) {
                    last = Math.max(last, number(2 * i + 1));
                }
            }
            return last;
        }
    }

    /** Finds the best order of a day. */
    private static final class Barber {
        private final int[] minutes = new int[MOST_MEN];
        private final int[] weight = new int[MOST_MEN];
        int waiting, least, order;

        void expect(int m, int hisMinutes, int hisWeight) {
            if (m < 0 || m >= minutes.length || m >= weight.length) {
                return;
            }
            minutes[m] = hisMinutes;
            weight[m] = hisWeight;
            waiting |= 1 << m;
        }

        void findBest() {
            least = -1;
            order = 0;
            seatNext(this, 0, 0, 0, 0, 0);
        }

        /** Tries all orders, the first ones first, so that of like ones the first stays. */
        private static void seatNext(Barber b, int depth, int seated, int clock, int waits, int digits) {
            if (seated == b.waiting || depth >= MOST_MEN) {
                if (b.least < 0 || waits < b.least) {
                    b.least = waits;
                    b.order = digits;
                }
                return;
            }
            for (int m = 0; m < b.minutes.length && m < b.weight.length; m++) {
                if ((b.waiting >> m & 1) != 0 && (seated >> m & 1) == 0) {
                    seatNext(b, depth + 1, seated | 1 << m, clock + b.minutes[m],
                        waits + clock * b.weight[m], digits * 10 + m + 1);
                }
            }
        }
    }
}
