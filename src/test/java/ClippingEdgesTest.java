/** The edges of told clippings: sheets of no number and of forty, the first and the last bit of each answer. */
public final class ClippingEdgesTest {
    private static final Check check = new Check("ClippingEdgesTest");
    private static final String STILL = "grows 0;trims 0;shames 0;";
    private static final String STEADY = "grows 3;trims 0;shames 0;";
    private static final long ALL_WEEKS = (1L << 52) - 1;

    public static void main(String[] args) {
        emptySheets();
        eachPlace();
        sortsOfSheets();
        cutAt999();
        kindBits();
        moreBits();
        oilBits();
        sinceBits();
        lawBits();
        whoseBits();
        noVowsPaid();
        filmSizes();
        filmsWhatIsJudged();
        shorn();
        check.end();
    }

    private static BeardsAreBonds man(int kind, int more, int beard, String law) {
        BeardsAreBonds x = new BeardsAreBonds();
        x.man(kind, more, beard);
        x.man(0, 0, 0);
        Check.law(x, law);
        return x;
    }

    /** A sheet of no number is not otherwise, whoever's it were. */
    private static void emptySheets() {
        for (int sort = 0; sort < 3; sort++) {
            BeardsAreBonds x = man(5, 9, 7, STEADY);
            x.sheet(0, sort, 0);
            check.due("judge", x.judge(0, 0), -1);
            check.due("kinds", x.kinds(0, 0, 0), 63);
            check.due("more", x.kinds(0, 0, 1), 1023);
            check.due("oil", x.kinds(0, 0, 2), 1023);
            check.due("since", x.since(0, 0), ALL_WEEKS);
            check.due("laws", x.laws(0, 0), 3);
            check.due("whose", x.whose(0), 3);
        }
        BeardsAreBonds x = new BeardsAreBonds();
        x.sheet(0, 0, 0);
        check.due("whose: nobody's, there being none", x.whose(0), 0);
    }

    /** The first that is otherwise: from 0 to 39. */
    private static void eachPlace() {
        BeardsAreBonds x = man(0, 0, 5, STEADY);
        for (int size = 1; size <= 40; size++) {
            x.film(0, 0, size);
            check.due("as filmed, " + size, x.judge(0, 0), -1);
        }
        for (int i = 39; i >= 0; i--) {
            x.cell(0, i, 0);
            check.due("place " + i, x.judge(0, 0), i);
        }
        for (int i = 0; i < 40; i++) {
            x.cell(0, i, 5 + 3 * (i + 1));
            check.due("right up to " + i, x.judge(0, 0), i == 39 ? -1 : i + 1);
        }
        x.cell(0, 0, 5);
        check.due("not the beard ahead of growing", x.judge(0, 0), 0);
        x.cell(0, 0, 7);
        check.due("one less", x.judge(0, 0), 0);
        x.cell(0, 0, 9);
        check.due("one more", x.judge(0, 0), 0);
    }

    /** As the sort keeps the numbers. */
    private static void sortsOfSheets() {
        BeardsAreBonds x = man(0, 0, 0, STILL);
        int[][] rows = {{0, 127, 127}, {0, 128, -1}, {0, 256 + 5, 5}, {0, -256 + 6, 6}, {0, 255, -1}, {1, 999, 999},
            {1, 32768, -1}, {1, 65536 + 999, 999}, {1, -65536 + 4, 4}, {2, 999, 999}, {2, 65536 + 999, -1}};
        for (int[] row : rows) {
            Check.sheet(x, 0, row[0], row[1]);
            x.set(0, 0, Math.max(0, row[2]));
            check.due("sort " + row[0] + ", " + row[1], x.judge(0, 0), row[2] < 0 ? 0 : -1);
        }
    }

    private static void cutAt999() {
        BeardsAreBonds x = man(0, 0, 995, STEADY);
        Check.sheet(x, 0, 1, 998, 999, 999);
        check.due("999 at most", x.judge(0, 0), -1);
        x.cell(0, 1, 1001);
        check.due("not 1001", x.judge(0, 0), 1);
    }

    /** KINDS, bits 0 to 5: each kind's own growth alone. */
    private static void kindBits() {
        // week 3, more 2, said 8: 8, 4, 0, 4, 0, 2; week 4: 8, 4, 9, 4, 11, 2
        int[][] rows = {{8, 1}, {4, 2 | 8}, {0, 4 | 16}, {2, 32}, {3, 0}, {9, 0}};
        BeardsAreBonds x = man(0, 2, 0, "grows 8;trims 0;shames 0;");
        for (int w = 0; w < 3; w++) {
            x.live();
        }
        x.set(0, 0, 0);
        for (int[] row : rows) {
            Check.sheet(x, 0, 2, row[0]);
            check.due("kinds of " + row[0], x.kinds(0, 0, 0), row[1]);
        }
        Check.sheet(x, 0, 2, 0, 9);
        check.due("young", x.kinds(0, 0, 0), 4);
        Check.sheet(x, 0, 2, 0, 11);
        check.due("glued", x.kinds(0, 0, 0), 16);
        check.due("he is a man yet", x.told(0, 0), 0);
    }

    /** MORE, bits 0 to 9. */
    private static void moreBits() {
        BeardsAreBonds x = man(0, 5, 0, "grows more;trims 0;shames 0;");
        for (int more = 0; more <= 9; more++) {
            Check.sheet(x, 0, 2, more, 2 * more);
            check.due("more " + more, x.kinds(0, 0, 1), 1 << more);
        }
        Check.sheet(x, 0, 2, 10);
        check.due("more 10", x.kinds(0, 0, 1), 0);
        BeardsAreBonds y = man(3, 5, 0, STILL);
        int[] bits = {7, 56, 448, 512};
        for (int third = 0; third < 4; third++) {
            Check.sheet(y, 0, 2, third);
            check.due("a hermit's third " + third, y.kinds(0, 0, 1), bits[third]);
        }
        check.due("his more stays", y.told(0, 1), 5);
        BeardsAreBonds z = man(2, 0, 0, STILL);
        Check.sheet(z, 0, 2, 0, 0, 0, 0, 1);
        check.due("young till week 4", z.kinds(0, 0, 1), 4);
    }

    /** OIL, bits 0 to 9. */
    private static void oilBits() {
        BeardsAreBonds x = man(0, 0, 0, "grows oil;trims 0;shames 0;");
        x.set(0, 1, 5);
        for (int oil = 0; oil <= 9; oil++) {
            Check.sheet(x, 0, 2, oil, 2 * oil);
            check.due("oil " + oil, x.kinds(0, 0, 2), 1 << oil);
        }
        Check.sheet(x, 0, 2, 10);
        check.due("oil 10", x.kinds(0, 0, 2), 0);
        check.due("his oil stays", x.told(0, 3), 5);
    }

    /** WEEKS, bits 0 to 51, whatever THE WEEK is. */
    private static void sinceBits() {
        BeardsAreBonds x = man(0, 0, 0, "grows week;trims 0;shames 0;");
        for (int now = 0; now < 3; now++) {
            x.set(0, 0, 0);
            for (int week = 0; week <= 52; week++) {
                Check.sheet(x, 0, 2, week, week + week + 1);
                check.due("since " + week, x.since(0, 0), week < 52 ? 1L << week : 0);
            }
            check.due("the week stays", x.count(2), now);
            x.live();
        }
    }

    /** TEXTS, bits 0 to 5. */
    private static void lawBits() {
        BeardsAreBonds x = new BeardsAreBonds();
        x.man(0, 0, 0);
        for (int t = 1; t < 6; t++) {
            Check.text(x, "grows 4+" + t + "*(week=1);trims 0;shames 0;");
        }
        Check.sheet(x, 0, 2, 4);
        check.due("all", x.laws(0, 0), 63);
        for (int t = 0; t < 6; t++) {
            Check.sheet(x, 0, 2, 4, 8 + t, 12 + t);
            check.due("text " + t, x.laws(0, 0), 1 << t);
        }
        Check.sheet(x, 0, 2, 4, 14);
        check.due("none", x.laws(0, 0), 0);
        check.due("the law stays", x.count(4), 0);
    }

    /** MEN, bits 0 to 5. */
    private static void whoseBits() {
        BeardsAreBonds x = new BeardsAreBonds();
        for (int m = 0; m < 6; m++) {
            Check.sheet(x, 0, 2, 4 + 10 * m, 8 + 10 * m);
            check.due("nobody's yet", x.whose(0), 0);
            x.man(0, 0, 10 * m);
            check.due("whose " + m, x.whose(0), 1 << m);
        }
        for (int m = 0; m < 6; m++) {
            x.set(m, 0, 7);
        }
        Check.sheet(x, 0, 2, 11, 15);
        check.due("all men's", x.whose(0), 63);
    }

    /** No VOWS being PAID, nobody being SHORN; but what he owes is said of his vows. */
    private static void noVowsPaid() {
        BeardsAreBonds x = man(0, 0, 50, STEADY);
        x.vow(1, 10, 0);
        x.vow(1, 200, 1);
        Check.sheet(x, 0, 2, 53, 56, 59);
        check.due("judge", x.judge(0, 0), -1);
        check.due("ripe", x.ripe(0, 230), 59);
        check.due("film", x.film(1, 0, 3), 3);
        check.due("as filmed", x.judge(1, 0), -1);
        Check.law(x, "grows owed=210;trims 0;shames 0;");
        Check.sheet(x, 0, 2, 51, 52, 53);
        check.due("he owes it in all weeks", x.judge(0, 0), -1);
    }

    /** A SHEET becomes shorts, as many as told, 0 to 40. */
    private static void filmSizes() {
        for (int sort = -1; sort < 3; sort++) {
            for (int n = 0; n <= 40; n += n == 1 ? 38 : 1) {
                BeardsAreBonds x = man(0, 0, 0, STEADY);
                x.sheet(2, sort, 7);
                check.due("film of " + n, x.film(2, 0, n), n);
                check.due("its last place", x.cell(2, n - 1, 0), n == 0 ? -12 : 1);
                check.due("behind it", x.cell(2, n, 0), -12);
                check.due("of shorts", x.menBy(2, 1, 0, 0), 0);
            }
        }
        BeardsAreBonds x = man(0, 0, 990, STEADY);
        x.film(0, 0, 40);
        check.due("993, 996, 999, ..", x.judge(0, 0), -1);
        check.due("the beard stays", x.told(0, 2), 990);
        check.due("the week stays", x.count(2), 0);
        Check.sheet(x, 1, 1, 993, 996, 999, 999, 999);
        check.due("as told", x.judge(1, 0), -1);
    }

    /** What is filmed of each kind is his, from the week on that it is. */
    private static void filmsWhatIsJudged() {
        for (int kind = 0; kind < 6; kind++) {
            BeardsAreBonds x = man(kind, 3, 10, "grows week*3+beard;trims 0;shames 0;");
            for (int w = 0; w < 12; w++) {
                x.film(0, 0, 40);
                check.due("judge", x.judge(0, 0), -1);
                check.due("kinds", x.kinds(0, 0, 0) >> kind & 1, 1);
                check.due("more", x.kinds(0, 0, 1) >> 3 & 1, 1);
                check.due("oil", x.kinds(0, 0, 2), 1023);
                check.due("since", x.since(0, 0) >> w & 1, 1);
                check.due("laws", x.laws(0, 0) >> 1 & 1, 1);
                check.due("whose", x.whose(0) & 1, 1);
                check.due("run: as filmed", x.run(1, 10), firstNumber(x));
                x.live();
            }
        }
    }

    /** The first number of sheet 0, by the beard of one who comes by it, and goes again. */
    private static int firstNumber(BeardsAreBonds x) {
        x.sheet(1, 1, 3);
        x.copy(0, 0, 1, 2, 1);
        x.image();
        x.menBy(1, 1, 0, 1);
        int beard = x.told(2, 2);
        x.back();
        return beard;
    }

    /** A shorn one's beard doesn't grow: of no kind, in no week, by no text. */
    private static void shorn() {
        BeardsAreBonds x = man(0, 0, 0, STEADY);
        x.vow(1, 200, 0);
        x.live();
        Check.sheet(x, 0, 2, 0, 0, 0);
        check.due("judge", x.judge(0, 0), -1);
        check.due("kinds", x.kinds(0, 0, 0), 63);
        check.due("more", x.kinds(0, 0, 1), 1023);
        check.due("oil", x.kinds(0, 0, 2), 1023);
        check.due("since", x.since(0, 0), ALL_WEEKS);
        check.due("laws", x.laws(0, 0), 3);
        check.due("whose", x.whose(0), 1);
        x.set(0, 0, 9);
        check.due("judge, with a beard", x.judge(0, 0), 0);
        x.film(0, 0, 2);
        Check.sheet(x, 1, 1, 9, 9);
        check.due("film", x.judge(1, 0), -1);
        check.due("ripe", x.ripe(0, 9), 0);
        check.due("ripe: never", x.ripe(0, 10), -1);
        check.due("soonest: never", x.soonest(0, 9), -1);
    }
}
