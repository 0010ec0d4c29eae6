import java.util.Arrays;

/** The edges of promise 18: what a sheet of offers may tell, which set is the best one. */
public final class OfferEdgesTest {
    private static final Check check = new Check("OfferEdgesTest");
    private static final int[] ONE = {1, 0};

    public static void main(String[] args) {
        sizes();
        numbers();
        sorts();
        none();
        oneOffer();
        lastWeek();
        likeOnes();
        allSix();
        trims();
        kinds();
        fromNow();
        owing();
        shorn();
        againstPlainSearch();
        check.end();
    }

    private static BeardsAreBonds man(int beard, String law) {
        BeardsAreBonds x = new BeardsAreBonds();
        x.man(0, 0, beard);
        x.man(0, 0, 0);
        Check.law(x, law);
        return x;
    }

    private static final String STILL = "grows 0;trims 0;shames 0;";

    private static void takes(BeardsAreBonds x, int set, int inches, int... offers) {
        Check.sheet(x, 3, 2, offers);
        check.due("take, set, of " + Arrays.toString(offers), x.take(3, 0, 0), set);
        check.due("take, inches, of " + Arrays.toString(offers), x.take(3, 0, 1), inches);
    }

    /** Two by two, six at most. */
    private static void sizes() {
        BeardsAreBonds x = man(999, STILL);
        for (int size = 0; size <= 40; size++) {
            int[] offers = new int[size];
            for (int i = 0; i < size; i++) {
                offers[i] = ONE[i % 2];
            }
            Check.sheet(x, 0, size % 3, offers);
            boolean right = size % 2 == 0 && size <= 12;
            check.due("set of " + size, x.take(0, 0, 0), right ? (1 << size / 2) - 1 : -2);
            check.due("inches of " + size, x.take(0, 0, 1), right ? size / 2 : -2);
        }
    }

    /** INCHES 1 to 200, weeks 0 to 59, each of them. */
    private static void numbers() {
        BeardsAreBonds x = man(999, STILL);
        int[][] wrong = {{0, 0}, {201, 0}, {-1, 0}, {1, -1}, {1, 60}, {Integer.MAX_VALUE, 0}, {Integer.MIN_VALUE, 0},
            {1, Integer.MAX_VALUE}, {1, Integer.MIN_VALUE}};
        for (int[] offer : wrong) {
            for (int place = 0; place < 6; place++) {
                int[] offers = {1, 0, 1, 0, 1, 0, 1, 0, 1, 0, 1, 0};
                offers[2 * place] = offer[0];
                offers[2 * place + 1] = offer[1];
                Check.sheet(x, 0, 2, offers);
                check.due("take of " + Arrays.toString(offers), x.take(0, 0, 0), -2);
            }
        }
        takes(x, 1, 1, 1, 0);
        takes(x, 1, 200, 200, 0);
        takes(x, 1, 1, 1, 59);
        takes(x, 1, 200, 200, 59);
    }

    /** Of any sort: what a row of bytes keeps of 200 is no number of inches. */
    private static void sorts() {
        BeardsAreBonds x = man(999, STILL);
        for (int sort = 0; sort < 3; sort++) {
            Check.sheet(x, 0, sort, 127, 59, 1, 0);
            check.due("sort " + sort, x.take(0, 0, 1), 128);
        }
        Check.sheet(x, 0, 0, 128, 0);
        check.due("bytes: 128", x.take(0, 0, 1), -2);
        Check.sheet(x, 0, 1, 128, 0);
        check.due("shorts: 128", x.take(0, 0, 1), 128);
        Check.sheet(x, 0, 1, 65536 + 7, 65536);
        check.due("shorts: lowest 16 bits", x.take(0, 0, 1), 7);
        Check.sheet(x, 0, 2, 65536 + 7, 0);
        check.due("ints: all bits", x.take(0, 0, 1), -2);
    }

    /** 0: none. */
    private static void none() {
        BeardsAreBonds x = man(0, STILL);
        takes(x, 0, 0);
        takes(x, 0, 0, 1, 0);
        takes(x, 0, 0, 1, 59, 1, 0, 200, 3);
    }

    /** COUNTS for INCHES or more. */
    private static void oneOffer() {
        BeardsAreBonds x = man(50, STILL);
        takes(x, 1, 49, 49, 0);
        takes(x, 1, 50, 50, 0);
        takes(x, 0, 0, 51, 0);
        takes(x, 2, 50, 51, 0, 50, 0);
        takes(x, 4, 50, 51, 0, 51, 9, 50, 0);
    }

    /** In which of 60 weeks: behind growing of that week, the last one being 59. */
    private static void lastWeek() {
        BeardsAreBonds x = man(0, "grows 1;trims 0;shames 0;");
        for (int nth = 0; nth < 60; nth++) {
            takes(x, 1, nth + 1, nth + 1, nth);
            takes(x, 0, 0, nth + 2, nth);
        }
    }

    /** That of most inches; of like ones the least as bits. */
    private static void likeOnes() {
        BeardsAreBonds x = man(10, STILL);
        takes(x, 1, 10, 10, 0, 10, 0);
        takes(x, 1, 10, 10, 9, 10, 0);
        takes(x, 3, 10, 4, 0, 6, 0, 10, 0);
        takes(x, 1, 10, 10, 0, 4, 0, 6, 0);
        takes(x, 3, 10, 5, 0, 5, 0, 5, 0, 5, 0);
        takes(x, 6, 10, 3, 0, 4, 0, 6, 0);
        takes(x, 2, 9, 8, 0, 9, 0);
        takes(x, 1, 9, 9, 0, 8, 0);
        takes(x, 32, 10, 11, 0, 11, 0, 11, 0, 11, 0, 11, 0, 10, 0);
        takes(x, 7, 9, 3, 0, 3, 0, 3, 0, 3, 0);
    }

    private static void allSix() {
        BeardsAreBonds x = man(999, STILL);
        takes(x, 31, 1000 - 10, 198, 0, 198, 0, 198, 0, 198, 0, 198, 0, 10, 0);
        x.set(0, 0, 999);
        takes(x, 63, 999, 200, 0, 199, 1, 200, 2, 200, 3, 199, 59, 1, 59);
        takes(x, 47, 999, 200, 0, 199, 1, 200, 2, 200, 3, 2, 59, 200, 58);
    }

    /** trims are cut likewise, in the week in which it is paid, 0 at least. */
    private static void trims() {
        BeardsAreBonds x = man(20, "grows 0;trims 3;shames 0;");
        takes(x, 3, 17, 10, 0, 7, 0);
        takes(x, 1, 10, 10, 0, 8, 0);
        takes(x, 3, 17, 7, 0, 10, 0);
        takes(x, 1, 20, 20, 0, 1, 0);
        x = man(20, "grows week*5;trims 99;shames 0;");
        // nothing is left behind week 0 but 0: then 5
        takes(x, 3, 25, 20, 0, 5, 1);
        takes(x, 1, 20, 20, 0, 6, 1);
        x = man(20, "grows 0;trims week;shames 0;");
        takes(x, 3, 20, 10, 0, 10, 1);
        takes(x, 1, 10, 10, 1, 10, 2);
        takes(x, 3, 19, 10, 1, 9, 2);
        x = man(20, "grows 0;trims beard=20;shames 0;");
        takes(x, 3, 19, 10, 0, 9, 0);
        takes(x, 1, 10, 10, 0, 10, 0);
    }

    /** By numbers within a week, by weeks ahead of that; by what a beard of that kind counts for. */
    private static void kinds() {
        BeardsAreBonds x = man(20, "grows 10*(week=1);trims 0;shames 0;");
        // the second offer comes first: 20 of 20; then 10
        takes(x, 3, 30, 10, 1, 20, 0);
        takes(x, 2, 20, 11, 1, 20, 0);
        BeardsAreBonds grey = new BeardsAreBonds();
        grey.man(1, 0, 20);
        Check.law(grey, STILL);
        // counts 40; behind 15: 5, which counts 10
        takes(grey, 3, 25, 15, 0, 10, 0);
        takes(grey, 1, 15, 15, 0, 11, 0);
        takes(grey, 1, 40, 40, 0, 1, 0);
        BeardsAreBonds glued = new BeardsAreBonds();
        glued.man(4, 4, 18);
        Check.law(glued, STILL);
        // 20 of week 0 count 10; behind 10: 10, which count 5
        takes(glued, 3, 15, 10, 0, 5, 0);
        takes(glued, 1, 10, 10, 0, 6, 0);
        takes(glued, 0, 0, 11, 0);
    }

    /** Weeks from now. */
    private static void fromNow() {
        BeardsAreBonds x = man(0, "grows week;trims 0;shames 0;");
        for (int w = 0; w < 5; w++) {
            x.live();
        }
        x.set(0, 0, 0);
        takes(x, 1, 5, 5, 0);
        takes(x, 0, 0, 6, 0);
        takes(x, 1, 11, 11, 1);
        takes(x, 0, 0, 12, 1);
    }

    /** No VOWS else being paid: they neither take of his beard, nor is he shorn for them. */
    private static void owing() {
        BeardsAreBonds x = man(50, STILL);
        x.vow(1, 20, 0);
        x.vow(1, 200, 0);
        takes(x, 1, 50, 50, 0);
        takes(x, 1, 50, 50, 3);
        // what he owes is said of his vows
        Check.law(x, "grows 0;trims owed=220;shames 0;");
        takes(x, 3, 49, 40, 0, 9, 0);
        takes(x, 1, 40, 40, 0, 10, 0);
    }

    /** One who is SHORN takes none. */
    private static void shorn() {
        BeardsAreBonds x = man(0, STILL);
        x.vow(1, 1, 0);
        x.live();
        x.set(0, 0, 999);
        takes(x, 0, 0, 1, 0);
        takes(x, 0, 0);
        Check.sheet(x, 3, 2, 1, 0);
        check.due("the other one isn't", x.take(3, 1, 1), 0);
        x.set(1, 0, 1);
        check.due("the other one does", x.take(3, 1, 1), 1);
    }

    /** All sets, each lived through week by week. */
    private static void againstPlainSearch() {
        java.util.Random dice = new java.util.Random(18);
        for (int r = 0; r < 300; r++) {
            int grows = dice.nextInt(7);
            int trims = dice.nextInt(4);
            int beard = dice.nextInt(40);
            BeardsAreBonds x = man(beard, "grows " + grows + ";trims " + trims + ";shames 0;");
            int[] offers = new int[2 * (1 + dice.nextInt(6))];
            for (int i = 0; i < offers.length; i += 2) {
                offers[i] = 1 + dice.nextInt(25);
                offers[i + 1] = dice.nextInt(6);
            }
            int best = 0;
            int most = 0;
            for (int set = 0; set < 1 << offers.length / 2; set++) {
                int inches = inches(offers, set, beard, grows, trims);
                if (inches > most) {
                    best = set;
                    most = inches;
                }
            }
            takes(x, best, most, offers);
        }
    }

    private static int inches(int[] offers, int set, int beard, int grows, int trims) {
        int b = beard;
        int sum = 0;
        for (int week = 0; week < 60; week++) {
            b = Math.min(999, b + grows);
            for (int i = 0; i < offers.length; i += 2) {
                if ((set >> i / 2 & 1) == 1 && offers[i + 1] == week) {
                    if (b < offers[i]) {
                        return -1;
                    }
                    sum += offers[i];
                    b = Math.max(0, b - offers[i] - trims);
                }
            }
        }
        return sum;
    }
}
