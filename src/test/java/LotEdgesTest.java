/** The edges of seasons by lots, and of images. */
public final class LotEdgesTest {
    private static final Check check = new Check("LotEdgesTest");

    public static void main(String[] args) {
        firstAndLastSeed();
        weeksDrawn();
        shornOnesDraw();
        aheadOfAll();
        nobody();
        seedsBeyond();
        lowestTerms();
        noWeeks();
        noImage();
        imageOfNone();
        imageAnew();
        whatStays();
        whatComesAnew();
        check.end();
    }

    private static int oil(int seed, int nth) {
        long lot = seed + 1L;
        for (int i = 0; i <= nth; i++) {
            lot = lot * 48271L % 2147483647L;
        }
        return (int) (lot % 10);
    }

    /** One man who owes shames of his oil in week 0: drawn tells his oil. */
    private static BeardsAreBonds oneWhoTellsHisOil() {
        BeardsAreBonds x = new BeardsAreBonds();
        x.man(0, 0, 0);
        x.man(0, 0, 0);
        Check.law(x, "grows 0;trims 0;shames oil;");
        x.vow(1, 1, 0);
        return x;
    }

    private static void firstAndLastSeed() {
        BeardsAreBonds x = oneWhoTellsHisOil();
        int[] seeds = {0, 1, 2, 9, 99998, 99999};
        for (int seed : seeds) {
            check.due("seed " + seed, x.drawn(seed, 1, 2), oil(seed, 0));
        }
        // 48271 modulo 10, and 100000 times 48271 modulo 2147483647: 532132706
        check.due("seed 0", x.drawn(0, 1, 2), 1);
        check.due("seed 99999", x.drawn(99999, 1, 2), (int) (4827100000L % 2147483647L % 10));
        check.due("seed -1", x.drawn(-1, 1, 2), -2);
        check.due("seed 100000", x.drawn(100000, 1, 2), -2);
    }

    /** n 0 to 60: what is due in the last of sixty weeks is tallied, not what is due behind it. */
    private static void weeksDrawn() {
        BeardsAreBonds x = new BeardsAreBonds();
        x.man(0, 0, 500);
        x.man(0, 0, 0);
        Check.law(x, "grows 0;trims 0;shames 5;");
        x.vow(1, 7, 0);
        x.vow(1, 8, 59);
        x.vow(1, 9, 60);
        x.vow(10, 9, 59);
        int[][] rows = {{0, 0, 0, 0}, {1, 0, 7, 0}, {59, 0, 7, 0}, {60, 1, 15, 5}};
        for (int[] row : rows) {
            for (int what = 0; what < 3; what++) {
                check.due("drawn(1, " + row[0] + ", " + what + ")", x.drawn(1, row[0], what), row[1 + what]);
            }
        }
        check.due("n 61", x.drawn(1, 61, 0), -2);
        check.due("n -1", x.drawn(1, -1, 0), -2);
    }

    /** OIL of each MAN, SHORN too, by numbers; on in further weeks. */
    private static void shornOnesDraw() {
        for (int seed = 0; seed < 30; seed++) {
            BeardsAreBonds x = new BeardsAreBonds();
            for (int m = 0; m < 6; m++) {
                x.man(0, 0, 0);
            }
            Check.law(x, "grows 0;trims 0;shames oil;");
            x.vow(1, 1, 0);
            x.vow(20, 1, 0);
            x.live();
            x.vow(52, 1, 1);
            x.vow(30, 1, 3);
            check.due("5, the sixth in the first week", x.drawn(seed, 1, 2), oil(seed, 5));
            check.due("nobody in the second", x.drawn(seed, 2, 2), oil(seed, 5));
            check.due("3, the fourth in the third week", x.drawn(seed, 3, 2), oil(seed, 5) + oil(seed, 15));
        }
    }

    /** Ahead of all: he grows by the oil that is drawn, not by his own. */
    private static void aheadOfAll() {
        for (int seed = 0; seed < 40; seed++) {
            BeardsAreBonds x = new BeardsAreBonds();
            x.man(0, 0, 0);
            x.man(0, 0, 0);
            x.set(0, 1, 9);
            Check.law(x, "grows oil;trims 0;shames 0;");
            x.vow(1, 5, 0);
            check.due("by the oil drawn", x.drawn(seed, 1, 1), oil(seed, 0) >= 5 ? 5 : 0);
            check.due("in thought", x.told(0, 3), 9);
            check.due("run draws none", x.run(1, 3), 5);
        }
    }

    private static void nobody() {
        BeardsAreBonds x = new BeardsAreBonds();
        for (int what = 0; what < 3; what++) {
            check.due("nobody, " + what, x.drawn(5, 60, what), 0);
        }
        check.due("nobody is shorn: 1", x.odds(5, 20, 60, 0), 1);
        check.due("by 1", x.odds(5, 20, 60, 1), 1);
    }

    /** Seeds may pass 99999, each 1 more; 1 to 20 of them. */
    private static void seedsBeyond() {
        BeardsAreBonds x = new BeardsAreBonds();
        x.man(0, 0, 0);
        x.man(0, 0, 0);
        Check.law(x, "grows oil;trims 0;shames 0;");
        x.vow(1, 3, 0);
        for (int seeds = 1; seeds <= 20; seeds++) {
            for (int first = 99980; first < 100000; first++) {
                int good = 0;
                for (int seed = first; seed < first + seeds; seed++) {
                    good += oil(seed, 0) >= 3 ? 1 : 0;
                }
                long above = x.odds(first, seeds, 1, 0);
                long below = x.odds(first, seeds, 1, 1);
                check.due("above, " + first + ", " + seeds, above * seeds, good * below);
                for (int d = 2; d <= 20; d++) {
                    check.due("in lowest terms", above % d == 0 && below % d == 0 ? 1 : 0, 0);
                }
            }
        }
        check.due("no seeds", x.odds(0, 0, 1, 0), BeardsAreBonds.NO);
        check.due("21 seeds", x.odds(0, 21, 1, 0), BeardsAreBonds.NO);
        check.due("seed 100000", x.odds(100000, 1, 1, 0), BeardsAreBonds.NO);
    }

    /** None is 0 by 1, all are 1 by 1. */
    private static void lowestTerms() {
        BeardsAreBonds x = new BeardsAreBonds();
        x.man(0, 0, 0);
        x.man(0, 0, 0);
        Check.law(x, "grows 0;trims 0;shames 0;");
        x.vow(1, 1, 3);
        for (int seeds = 1; seeds <= 20; seeds++) {
            check.due("none: above", x.odds(4, seeds, 4, 0), 0);
            check.due("none: below", x.odds(4, seeds, 4, 1), 1);
            check.due("all: above", x.odds(4, seeds, 3, 0), 1);
            check.due("all: below", x.odds(4, seeds, 3, 1), 1);
        }
    }

    private static void noWeeks() {
        BeardsAreBonds x = oneWhoTellsHisOil();
        check.due("no week: nobody is shorn", x.odds(0, 20, 0, 0), 1);
        check.due("a week: he is", x.odds(0, 20, 1, 0), 0);
        check.due("sixty weeks", x.odds(0, 20, 60, 0), 0);
        check.due("61 weeks", x.odds(0, 20, 61, 0), BeardsAreBonds.NO);
        check.due("-1 weeks", x.odds(0, 20, -1, 0), BeardsAreBonds.NO);
        x.live();
        check.due("who is shorn already is not shorn again", x.odds(0, 20, 60, 0), 1);
    }

    private static void noImage() {
        BeardsAreBonds x = new BeardsAreBonds();
        check.due("there is none", x.back(), -3);
        x.man(0, 0, 5);
        check.due("there is none yet", x.back(), -3);
        check.due("he stays", x.told(0, 2), 5);
    }

    /** An image of nobody is one. */
    private static void imageOfNone() {
        BeardsAreBonds x = new BeardsAreBonds();
        check.due("image", x.image(), 0);
        x.man(0, 0, 5);
        x.man(0, 0, 5);
        x.vow(1, 5, 9);
        x.live();
        Check.law(x, "grows 0;trims 0;shames 0;");
        check.due("back", x.back(), 0);
        int[] counts = {0, 0, 0, 2, 0, 0};
        for (int what = 0; what < counts.length; what++) {
            check.due("count(" + what + ")", x.count(what), counts[what]);
        }
        check.due("no man", x.told(0, 0), -5);
        check.due("no vow", x.bond(0, 0), -6);
        check.due("back again", x.back(), 0);
    }

    /** The last image is the one that is kept. */
    private static void imageAnew() {
        BeardsAreBonds x = new BeardsAreBonds();
        for (int m = 0; m < 6; m++) {
            x.man(0, 0, m);
            check.due("image of " + (m + 1), x.image(), m + 1);
        }
        x.set(5, 0, 99);
        check.due("back", x.back(), 6);
        check.due("the last one's beard", x.told(5, 2), 5);
        x.set(5, 0, 99);
        x.image();
        x.back();
        check.due("the new image's", x.told(5, 2), 99);
    }

    /** An image keeps neither sheets, nor texts, nor the tape; nor does going back change the image. */
    private static void whatStays() {
        BeardsAreBonds x = new BeardsAreBonds();
        x.man(0, 0, 5);
        x.sheet(0, 0, 3);
        Check.feedAll(x, "gro");
        x.image();
        x.sheet(0, 1, 4);
        x.sheet(1, 2, 1);
        Check.feedAll(x, "ws 1;trims 1;shames 1;");
        check.due("a text", x.text(), 1);
        x.force(1);
        Check.feedAll(x, "12");
        x.back();
        check.due("the law is as it was", x.count(4), 0);
        check.due("the text stays", x.count(3), 2);
        check.due("the tape stays", x.count(5), 2);
        check.due("the sheet stays", x.cell(0, 3, 0), 1);
        check.due("the other sheet stays", x.cell(1, 0, 0), 1);
        check.due("the text can be the law again", x.force(1), 0);
    }

    /** Who comes behind going back has nothing of him who was there. */
    private static void whatComesAnew() {
        BeardsAreBonds x = new BeardsAreBonds();
        x.man(0, 0, 5);
        x.image();
        x.man(4, 9, 3);
        x.set(1, 1, 9);
        x.set(1, 2, 9);
        x.vow(10, 200, 0);
        x.vow(10, 200, 0);
        x.plaits(0, 1);
        x.live();
        x.live();
        check.due("he is shorn", x.told(1, 5), 1);
        x.back();
        check.due("a man", x.man(0, 0, 7), 1);
        int[] told = {0, 0, 7, 0, 0, 0, 7, 0, 0};
        for (int what = 0; what < told.length; what++) {
            check.due("told(1, " + what + ")", x.told(1, what), told[what]);
        }
        check.due("a vow", x.vow(10, 3, 4), 0);
        int[] bond = {1, 0, 3, 4, -1, 0, 4};
        for (int what = 0; what < bond.length; what++) {
            check.due("bond(0, " + what + ")", x.bond(0, what), bond[what]);
        }
    }
}
