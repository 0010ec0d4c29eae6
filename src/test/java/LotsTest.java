/** Promises 31 to 34: drawn, odds, image, back. */
public final class LotsTest {
    private static final Check check = new Check("LotsTest");

    public static void main(String[] args) {
        lots();
        drawnRefused();
        odds();
        oddsRefused();
        noImage();
        images();
        check.end();
    }

    /** The oil of the k-th lot of a seed, from 0. */
    private static int oil(int seed, int k) {
        long lot = seed + 1;
        for (int i = 0; i <= k; i++) {
            lot = lot * 48271 % 2147483647;
        }
        return (int) (lot % 10);
    }

    private static void lots() {
        // each pays, in week 0 .. 3, if his oil in it is 5 or more; he is shorn, if it isn't
        for (int seed = 0; seed < 100000; seed += 6011) {
            BeardsAreBonds x = new BeardsAreBonds();
            x.man(0, 0, 0);
            x.man(0, 1, 0);
            Check.law(x, "grows 10*(4<oil);trims 9;shames oil;");
            for (int w = 0; w < 4; w++) {
                x.vow(1, 10, w);
                x.vow(10, 10, w);
            }
            int shorn = 0;
            int paid = 0;
            int shames = 0;
            for (int n = 0; n <= 4; n++) {
                String call = "drawn(" + seed + ", " + n + ", ";
                check.due(call + "0)", x.drawn(seed, n, 0), Integer.bitCount(shorn));
                check.due(call + "1)", x.drawn(seed, n, 1), paid);
                check.due(call + "2)", x.drawn(seed, n, 2), shames);
                for (int m = 0; m < 2; m++) {
                    int oil = oil(seed, 2 * n + m);
                    if ((shorn >> m & 1) == 0 && oil > 4) {
                        paid += 10;
                    } else if ((shorn >> m & 1) == 0) {
                        shorn |= 1 << m;
                        shames += oil;
                    }
                }
            }
            check.due("in thought: oil", x.told(0, 3), 0);
            check.due("in thought: week", x.count(2), 0);
        }
        // the first lot of seed 0 is 48271, the next 182605794
        check.due("lots of seed 0", oil(0, 0) * 10 + oil(0, 1), 14);
    }

    private static void drawnRefused() {
        BeardsAreBonds x = new BeardsAreBonds();
        check.due("drawn: seed -1", x.drawn(-1, 1, 0), -2);
        check.due("drawn: seed 100000", x.drawn(100000, 1, 0), -2);
        check.due("drawn: n -1", x.drawn(0, -1, 0), -2);
        check.due("drawn: n 61", x.drawn(0, 61, 0), -2);
        check.due("drawn: what -1", x.drawn(0, 1, -1), -2);
        check.due("drawn: what 3", x.drawn(0, 1, 3), -2);
        check.due("drawn", x.drawn(99999, 60, 2), 0);
    }

    private static void odds() {
        BeardsAreBonds x = new BeardsAreBonds();
        x.man(0, 0, 0);
        x.man(0, 0, 0);
        Check.law(x, "grows oil;trims 0;shames 0;");
        x.vow(1, 5, 0);
        int[] firsts = {0, 1, 777, 5000, 40001, 99990, 99999};
        for (int first : firsts) {
            for (int seeds = 1; seeds <= 20; seeds++) {
                int good = 0;
                for (int seed = first; seed < first + seeds; seed++) {
                    good += oil(seed, 0) >= 5 ? 1 : 0;
                }
                int divisor = java.math.BigInteger.valueOf(good).gcd(java.math.BigInteger.valueOf(seeds)).intValue();
                String call = "odds(" + first + ", " + seeds + ", 1, ";
                check.due(call + "0)", x.odds(first, seeds, 1, 0), good / divisor);
                check.due(call + "1)", x.odds(first, seeds, 1, 1), seeds / divisor);
            }
        }
        check.due("no weeks: 1", x.odds(7, 6, 0, 0), 1);
        check.due("no weeks: by 1", x.odds(7, 6, 0, 1), 1);
        x.vow(1, 200, 0);
        check.due("never: 0", x.odds(7, 6, 1, 0), 0);
        check.due("never: by 1", x.odds(7, 6, 1, 1), 1);
        x.live();
        check.due("who is shorn already is not shorn in them", x.odds(7, 6, 9, 0), 1);
    }

    private static void oddsRefused() {
        BeardsAreBonds x = new BeardsAreBonds();
        long no = BeardsAreBonds.NO;
        check.due("odds: seed -1", x.odds(-1, 1, 1, 0), no);
        check.due("odds: seed 100000", x.odds(100000, 1, 1, 0), no);
        check.due("odds: seeds 0", x.odds(0, 0, 1, 0), no);
        check.due("odds: seeds 21", x.odds(0, 21, 1, 0), no);
        check.due("odds: n -1", x.odds(0, 1, -1, 0), no);
        check.due("odds: n 61", x.odds(0, 1, 61, 0), no);
        check.due("odds: part -1", x.odds(0, 1, 1, -1), no);
        check.due("odds: part 2", x.odds(0, 1, 1, 2), no);
        check.due("odds", x.odds(99999, 20, 60, 1), 1);
    }

    private static void noImage() {
        BeardsAreBonds x = new BeardsAreBonds();
        x.man(0, 0, 0);
        check.due("back: no image", x.back(), -3);
        check.due("the man stays", x.count(0), 1);
    }

    private static void images() {
        BeardsAreBonds x = new BeardsAreBonds();
        x.man(1, 2, 30);
        x.man(0, 0, 40);
        x.set(0, 1, 3);
        x.set(0, 2, 4);
        x.vow(1, 10, 9);
        x.vow(1, 20, 8);
        x.vow(10, 9, 8);
        x.plaits(0, 1);
        x.live();
        check.due("image", x.image(), 2);
        int[] men = new int[18];
        int[] vows = new int[21];
        tell(x, men, vows);
        x.man(5, 5, 5);
        x.vow(20, 200, 1);
        x.set(0, 0, 1);
        x.set(0, 1, 1);
        x.set(0, 2, 1);
        x.pass(0, 2);
        Check.law(x, "grows 0;trims 0;shames 0;");
        x.sheet(2, 0, 3);
        x.feed(2, 1, 1, 1, 1, 1);
        for (int w = 0; w < 12; w++) {
            x.live();
        }
        x.clear();
        check.due("he is shorn", x.told(0, 5), 1);
        for (int times = 0; times < 2; times++) {
            check.due("back", x.back(), 2);
            int[] menBack = new int[18];
            int[] vowsBack = new int[21];
            tell(x, menBack, vowsBack);
            check.due("men", java.util.Arrays.equals(men, menBack) ? 1 : 0, 1);
            check.due("vows", java.util.Arrays.equals(vows, vowsBack) ? 1 : 0, 1);
            check.due("no third man", x.told(2, 0), -5);
            check.due("no fourth vow", x.bond(3, 0), -6);
            int[] counts = {2, 3, 1, 2, 0, 2};
            for (int what = 0; what < counts.length; what++) {
                check.due("count(" + what + ")", x.count(what), counts[what]);
            }
            check.due("sheets stay", x.cell(2, 2, 0), 1);
            check.due("a man anew", x.man(3, 3, 3), 2);
            check.due("he is of that kind", x.told(2, 0), 3);
            check.due("he has no oil", x.told(2, 3), 0);
            check.due("he is not shorn", x.told(2, 5), 0);
            check.due("a vow anew", x.vow(21, 3, 5), 3);
            check.due("it stands", x.bond(3, 5), 0);
            x.set(2, 1, 5);
            x.vow(20, 200, 1);
            x.live();
        }
        check.due("an image anew", x.image(), 3);
        check.due("back to it", x.back(), 3);
        check.due("week", x.count(2), 2);
    }

    private static void tell(BeardsAreBonds x, int[] men, int[] vows) {
        for (int m = 0; m < 2; m++) {
            for (int what = 0; what < 9; what++) {
                men[9 * m + what] = x.told(m, what);
            }
        }
        for (int v = 0; v < 3; v++) {
            for (int what = 0; what < 7; what++) {
                vows[7 * v + what] = x.bond(v, what);
            }
        }
    }
}
