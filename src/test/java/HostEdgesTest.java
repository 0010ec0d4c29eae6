/** The edges of the host's calls: sheets, cells, copies, men by sheets, what is taken for what. */
public final class HostEdgesTest {
    private static final Check check = new Check("HostEdgesTest");

    public static void main(String[] args) {
        whichSheets();
        whichSorts();
        sizes();
        allNull();
        lowestBits();
        places();
        copiedPlaces();
        overlapping();
        menByNumbers();
        menByPlaces();
        menByBounds();
        takenPlaces();
        takenKinds();
        takenVows();
        check.end();
    }

    /** Sheets 0 to 3; all are missing at first. */
    private static void whichSheets() {
        BeardsAreBonds x = new BeardsAreBonds();
        for (int s = -2; s < 7; s++) {
            boolean right = s >= 0 && s <= 3;
            check.due("cell of " + s, x.cell(s, 0, 0), right ? -11 : -2);
            check.due("whose of " + s, x.whose(s), right ? -11 : -2);
            check.due("take of " + s, x.take(s, 0, 0), right ? -11 : -2);
            check.due("menBy of " + s, x.menBy(s, 0, 0, 0), right ? -11 : -2);
            check.due("copy from " + s, x.copy(s, 0, 0, 0, 0), right ? -11 : -2);
            check.due("copy to " + s, x.copy(0, 0, s, 0, 0), right ? -11 : -2);
            check.due("sheet " + s, x.sheet(s, 0, 1), right ? 1 : -2);
            check.due("cell of " + s + ", being there", x.cell(s, 0, 0), right ? 1 : -2);
            check.due("sheet " + s + ", missing", x.sheet(s, -1, 1), right ? 1 : -2);
            check.due("cell of " + s + ", missing again", x.cell(s, 0, 0), right ? -11 : -2);
        }
    }

    /** Sorts -1 to 2. */
    private static void whichSorts() {
        for (int sort = -3; sort < 6; sort++) {
            BeardsAreBonds x = new BeardsAreBonds();
            boolean right = sort >= -1 && sort <= 2;
            check.due("sheet of sort " + sort, x.sheet(0, sort, 3), right ? 1 : -2);
            for (int asked = -2; asked < 5; asked++) {
                int due = asked < 0 || asked > 2 ? -2 : !right || sort < 0 ? -11 : asked == sort ? 0 : -13;
                check.due("menBy of sort " + asked + ", being " + sort, x.menBy(0, asked, 0, 0), due);
            }
        }
    }

    /** 40 at most, 0 at least; for a missing one it does not matter. */
    private static void sizes() {
        int[] sizes = {Integer.MIN_VALUE, -2, -1, 0, 1, 39, 40, 41, 42, Integer.MAX_VALUE};
        for (int n : sizes) {
            for (int sort = 0; sort < 3; sort++) {
                BeardsAreBonds x = new BeardsAreBonds();
                check.due("sheet of " + n, x.sheet(1, sort, n), n > 40 ? -2 : n < 0 ? -14 : 1);
                check.due("its last place", x.cell(1, n - 1, 1), n > 40 || n < 0 ? -11 : n == 0 ? -12 : 1);
                check.due("behind it", x.cell(1, n, 1), n > 40 || n < 0 ? -11 : -12);
            }
            BeardsAreBonds x = new BeardsAreBonds();
            x.sheet(1, 0, 5);
            check.due("missing, of " + n, x.sheet(1, -1, n), 1);
            check.due("missing it is", x.cell(1, 0, 1), -11);
        }
    }

    /** All 0, whatever has been in it. */
    private static void allNull() {
        BeardsAreBonds x = new BeardsAreBonds();
        x.man(0, 0, 0);
        Check.law(x, "grows 0;trims 0;shames 0;");
        for (int sort = 0; sort < 3; sort++) {
            for (int next = 0; next < 3; next++) {
                x.sheet(0, sort, 40);
                for (int i = 0; i < 40; i++) {
                    x.cell(0, i, 5);
                }
                x.sheet(0, next, 40);
                check.due("all 0", x.judge(0, 0), -1);
                x.cell(0, 39, 5);
                x.film(0, 0, 10);
                x.sheet(0, next, 40);
                check.due("all 0 behind a film", x.judge(0, 0), -1);
            }
        }
    }

    /** Of bytes, shorts the lowest 8, 16 bits. */
    private static void lowestBits() {
        int[] numbers = {0, 1, 127, 128, 255, 256, 257, 32767, 32768, 65535, 65536, 65537, -1, -128, -129, -256, -32768,
            -32769, -65536, Integer.MAX_VALUE, Integer.MIN_VALUE};
        for (int sort = 0; sort < 3; sort++) {
            for (int v : numbers) {
                BeardsAreBonds x = new BeardsAreBonds();
                x.man(0, 0, 0);
                Check.law(x, "grows 0;trims 0;shames 0;");
                x.sheet(0, sort, 1);
                check.due("cell of " + v, x.cell(0, 0, v), 1);
                int kept = sort == 0 ? (byte) v : sort == 1 ? (short) v : v;
                boolean isBeard = kept >= 0 && kept <= 999;
                x.set(0, 0, isBeard ? kept : 0);
                check.due("sort " + sort + " keeps " + v, x.judge(0, 0), isBeard ? -1 : 0);
            }
        }
    }

    private static void places() {
        BeardsAreBonds x = new BeardsAreBonds();
        int[] sizes = {0, 1, 39, 40};
        for (int size : sizes) {
            x.sheet(0, 2, size);
            for (int i = -2; i < 43; i++) {
                check.due("cell " + i + " of " + size, x.cell(0, i, 1), i >= 0 && i < size ? 1 : -12);
            }
            check.due("cell MIN", x.cell(0, Integer.MIN_VALUE, 1), -12);
            check.due("cell MAX", x.cell(0, Integer.MAX_VALUE, 1), -12);
        }
    }

    /** Each start, each end, each number of numbers, of rows of 4 and of 6. */
    private static void copiedPlaces() {
        BeardsAreBonds x = new BeardsAreBonds();
        x.sheet(0, 1, 4);
        x.sheet(1, 1, 6);
        for (int i = -1; i < 8; i++) {
            for (int j = -1; j < 8; j++) {
                for (int n = -1; n < 8; n++) {
                    boolean right = i >= 0 && j >= 0 && n >= 0 && i + n <= 4 && j + n <= 6;
                    check.due("copy " + i + " to " + j + ", " + n, x.copy(0, i, 1, j, n), right ? n : -12);
                }
            }
        }
    }

    /** As they were: also when they come onto themselves. */
    private static void overlapping() {
        for (int i = 0; i < 8; i++) {
            for (int j = 0; j < 8; j++) {
                for (int n = 0; n + Math.max(i, j) <= 8; n++) {
                    BeardsAreBonds x = new BeardsAreBonds();
                    x.man(0, 0, 0);
                    Check.law(x, "grows 0;trims 0;shames 0;");
                    int[] want = {1, 2, 3, 4, 5, 6, 7, 8};
                    Check.sheet(x, 0, 0, want);
                    check.due("copy", x.copy(0, i, 0, j, n), n);
                    System.arraycopy(want.clone(), i, want, j, n);
                    for (int k = 0; k < 8; k++) {
                        x.sheet(1, 0, 1);
                        x.copy(0, k, 1, 0, 1);
                        x.set(0, 0, want[k]);
                        check.due("number " + k + " of " + i + " to " + j + ", " + n, x.judge(1, 0), -1);
                    }
                }
            }
        }
    }

    /** n is 0 to 6. */
    private static void menByNumbers() {
        for (int n = -1; n <= 7; n++) {
            BeardsAreBonds x = new BeardsAreBonds();
            x.sheet(0, 0, 40);
            boolean right = n >= 0 && n <= 6;
            check.due("menBy of " + n, x.menBy(0, 0, 0, n), right ? n : -2);
            check.due("men", x.count(0), right ? n : 0);
            check.due("menBy of " + n + " again: only so many have room", x.menBy(0, 0, 0, n),
                right ? Math.min(n, 6 - n) : -2);
        }
    }

    /** Three by three from a place on: what stood ahead of a place outside came. */
    private static void menByPlaces() {
        for (int size = 0; size <= 10; size++) {
            for (int at = -4; at <= 11; at++) {
                for (int n = 0; n <= 4; n++) {
                    BeardsAreBonds x = new BeardsAreBonds();
                    x.sheet(0, 1, size);
                    int have = 0;
                    while (at >= 0 && have < n && at + 3 * have + 3 <= size) {
                        have++;
                    }
                    String call = "menBy from " + at + ", " + n + ", of " + size;
                    check.due(call, x.menBy(0, 1, at, n), have == n ? n : -12);
                    check.due(call + ": who came", x.count(0), have);
                }
            }
        }
    }

    /** As of man(): those who are none are left out, and the next ones come. */
    private static void menByBounds() {
        int[][] wrong = {{-1, 0, 0}, {6, 0, 0}, {0, -1, 0}, {0, 10, 0}, {0, 0, -1}, {0, 0, 1000}};
        for (int[] w : wrong) {
            BeardsAreBonds x = new BeardsAreBonds();
            Check.sheet(x, 0, 2, 5, 9, 999, w[0], w[1], w[2], 1, 2, 3);
            check.due("two of three", x.menBy(0, 2, 0, 3), 2);
            check.due("two are there", x.count(0), 2);
            int[][] want = {{5, 9, 999}, {1, 2, 3}};
            for (int m = 0; m < 2; m++) {
                for (int what = 0; what < 3; what++) {
                    check.due("told(" + m + ", " + what + ")", x.told(m, what), want[m][what]);
                }
                for (int what = 3; what < 6; what++) {
                    check.due("told(" + m + ", " + what + ")", x.told(m, what), 0);
                }
            }
            check.due("none of one", x.menBy(0, 2, 3, 1), 0);
        }
    }

    /** 0 to 5 are men, 6 to 13 vows. */
    private static void takenPlaces() {
        for (int men = 2; men <= 6; men++) {
            for (int vows = 0; vows <= 8; vows++) {
                BeardsAreBonds x = new BeardsAreBonds();
                for (int m = 0; m < men; m++) {
                    x.man(0, 0, 0);
                }
                for (int v = 0; v < vows; v++) {
                    x.vow(10, 1 + v, 9);
                }
                for (int i = -2; i < 17; i++) {
                    int asMan = i < 0 || i > 13 ? -12 : i < men ? i : i >= 6 && i - 6 < vows ? -13 : -11;
                    int asVow = i < 0 || i > 13 ? -12 : i < men ? -13 : i >= 6 && i - 6 < vows ? i - 5 : -11;
                    check.due("place " + i + " for a man", x.taken(i, 0), asMan);
                    check.due("place " + i + " for a vow", x.taken(i, 6), asVow);
                }
                check.due("place MIN", x.taken(Integer.MIN_VALUE, 6), -12);
                check.due("place MAX", x.taken(Integer.MAX_VALUE, 0), -12);
            }
        }
    }

    /** Also of one that is one: a HERMIT is a GREY, a GLUED is a YOUNG, all are MEN. */
    private static void takenKinds() {
        String[] is = {"0", "01", "02", "013", "024", "05"};
        BeardsAreBonds x = new BeardsAreBonds();
        for (int m = 0; m < 6; m++) {
            x.man(m, 0, 0);
        }
        for (int m = 0; m < 6; m++) {
            for (int kind = -2; kind < 9; kind++) {
                int due = kind < 0 || kind > 6 ? -2 : is[m].contains("" + kind) ? m : -13;
                check.due("kind " + m + " for " + kind, x.taken(m, kind), due);
            }
        }
    }

    /** INCHES of a vow, of whatever state. */
    private static void takenVows() {
        BeardsAreBonds x = new BeardsAreBonds();
        x.man(0, 0, 50);
        x.man(0, 0, 0);
        x.vow(1, 11, 0);
        x.vow(10, 12, 1);
        x.vow(1, 13, 9);
        x.vow(10, 200, 9);
        x.live();
        check.due("a paid one", x.taken(6, 6), 11);
        x.clear();
        check.due("a cleared one", x.taken(8, 6), 0);
        check.due("one that is cleared, too", x.taken(7, 6), 0);
        check.due("one that is less", x.taken(9, 6), 199);
        BeardsAreBonds y = new BeardsAreBonds();
        y.man(0, 0, 0);
        y.man(0, 0, 0);
        y.vow(1, 200, 0);
        y.live();
        check.due("a broken one", y.taken(6, 6), 200);
    }
}
