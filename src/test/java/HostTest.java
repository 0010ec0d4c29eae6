/** Promises 35 to 39: sheet, cell, copy, menBy, taken. */
public final class HostTest {
    private static final Check check = new Check("HostTest");
    private static final int MAX = Integer.MAX_VALUE;
    private static final int MIN = Integer.MIN_VALUE;

    public static void main(String[] args) {
        sheets();
        cells();
        narrowed();
        copies();
        copiesRefused();
        menBy();
        menByRefused();
        taken();
        check.end();
    }

    private static void sheets() {
        BeardsAreBonds x = new BeardsAreBonds();
        check.due("sheet -1", x.sheet(-1, 0, 0), -2);
        check.due("sheet 4", x.sheet(4, 0, 0), -2);
        check.due("sort -2", x.sheet(0, -2, 0), -2);
        check.due("sort 3", x.sheet(0, 3, 0), -2);
        check.due("size 41", x.sheet(0, 0, 41), -2);
        check.due("size -1", x.sheet(0, 0, -1), -14);
        check.due("size, least", x.sheet(0, 2, MIN), -14);
        check.due("size, most", x.sheet(0, 2, MAX), -2);
        check.due("BAD ahead of -14", x.sheet(0, 3, -1), -2);
        for (int s = 0; s < 4; s++) {
            check.due("missing at first", x.cell(s, 0, 0), -11);
        }
        for (int sort = 0; sort < 3; sort++) {
            check.due("sheet of sort " + sort, x.sheet(sort, sort, 40), 1);
            check.due("its last", x.cell(sort, 39, 1), 1);
        }
        check.due("missing again", x.sheet(0, -1, 99), 1);
        check.due("it is", x.cell(0, 0, 0), -11);
        check.due("missing by a size below 0", x.sheet(1, -1, -99), 1);
        check.due("it is", x.cell(1, 0, 0), -11);
        check.due("a refused one stays", x.sheet(2, 0, 41), -2);
        check.due("it does", x.cell(2, 39, 0), 1);
        x.man(0, 0, 0);
        Check.law(x, "grows 0;trims 0;shames 0;");
        Check.sheet(x, 2, 2, 5, 6, 7);
        x.sheet(2, 2, 3);
        check.due("all 0", x.judge(2, 0), -1);
    }

    private static void cells() {
        BeardsAreBonds x = new BeardsAreBonds();
        check.due("cell: sheet -1", x.cell(-1, 0, 0), -2);
        check.due("cell: sheet 4", x.cell(4, 9, 0), -2);
        check.due("cell: missing", x.cell(0, -1, 0), -11);
        x.sheet(0, 2, 3);
        check.due("cell: place -1", x.cell(0, -1, 0), -12);
        check.due("cell: place 3", x.cell(0, 3, 0), -12);
        check.due("cell: place, least", x.cell(0, MIN, 0), -12);
        check.due("cell", x.cell(0, 0, 8), 1);
        check.due("cell", x.cell(0, 2, 9), 1);
        x.sheet(1, 2, 0);
        check.due("cell: an empty sheet", x.cell(1, 0, 0), -12);
    }

    /** The number that a sheet of that sort keeps of v, told by the man who comes by it. */
    private static void keeps(int sort, int v, int want) {
        BeardsAreBonds x = new BeardsAreBonds();
        Check.sheet(x, 0, sort, 0, 0, v);
        check.due("men by " + v, x.menBy(0, sort, 0, 1), want < 0 ? 0 : 1);
        if (want >= 0) {
            check.due("of sort " + sort + ", " + v, x.told(0, 2), want);
        }
    }

    private static void narrowed() {
        keeps(0, 127, 127);
        keeps(0, 128, -1);
        keeps(0, 255, -1);
        keeps(0, 256, 0);
        keeps(0, 300, 44);
        keeps(0, -1, -1);
        keeps(0, -250, 6);
        keeps(1, 999, 999);
        keeps(1, 65536 + 300, 300);
        keeps(1, 40000, -1);
        keeps(1, -65000, 536);
        keeps(2, 999, 999);
        keeps(2, 65536 + 300, -1);
        keeps(2, MIN, -1);
    }

    private static void copies() {
        BeardsAreBonds x = new BeardsAreBonds();
        x.man(0, 0, 0);
        Check.law(x, "grows 0;trims 0;shames 0;");
        Check.sheet(x, 0, 2, 1, 2, 3, 4, 5, 6);
        Check.sheet(x, 1, 2, 11, 12, 13);
        check.due("copy", x.copy(0, 1, 1, 0, 2), 2);
        tells(x, 1, 2, 3, 13);
        check.due("copy onto its own, on", x.copy(0, 0, 0, 2, 4), 4);
        tells(x, 0, 1, 2, 1, 2, 3, 4);
        Check.sheet(x, 0, 2, 1, 2, 3, 4, 5, 6);
        check.due("copy onto its own, back", x.copy(0, 2, 0, 0, 4), 4);
        tells(x, 0, 3, 4, 5, 6, 5, 6);
        check.due("copy of none", x.copy(0, 6, 1, 3, 0), 0);
        check.due("copy of all", x.copy(1, 0, 0, 3, 3), 3);
        tells(x, 0, 3, 4, 5, 2, 3, 13);
        tells(x, 1, 2, 3, 13);
    }

    /** Whether a sheet tells just these numbers: each is judged alone, by a beard that doesn't grow. */
    private static void tells(BeardsAreBonds x, int s, int... numbers) {
        check.due("its size", x.cell(s, numbers.length, 0), -12);
        for (int i = 0; i < numbers.length; i++) {
            x.sheet(3, 2, 1);
            x.copy(s, i, 3, 0, 1);
            x.set(0, 0, numbers[i]);
            check.due("number " + i + " of sheet " + s, x.judge(3, 0), -1);
        }
    }

    private static void copiesRefused() {
        BeardsAreBonds x = new BeardsAreBonds();
        check.due("copy: sheet -1", x.copy(-1, 0, 0, 0, 1), -2);
        check.due("copy: other -1", x.copy(0, 0, -1, 0, 1), -2);
        check.due("copy: other 4", x.copy(0, 0, 4, 0, 1), -2);
        check.due("copy: missing", x.copy(0, 0, 1, 0, 1), -11);
        x.sheet(0, 2, 4);
        check.due("copy: the other is missing", x.copy(0, 0, 1, 0, 1), -11);
        check.due("copy: it is missing", x.copy(1, 0, 0, 0, 1), -11);
        x.sheet(1, 1, 5);
        check.due("copy: unlike sorts", x.copy(0, 0, 1, 0, 99), -13);
        x.sheet(1, 2, 5);
        int[][] wrong = {{-1, 0, 1}, {0, -1, 1}, {0, 0, -1}, {0, 0, 5}, {4, 0, 1}, {0, 5, 1}, {1, 0, 4},
            {0, 2, 4}, {5, 0, 0}, {0, 6, 0}, {MAX, 0, 1}, {0, MAX, 1}, {1, 1, MAX}, {MIN, 0, 0},
            {2, 2, MIN}, {MAX, MAX, MAX}};
        for (int[] w : wrong) {
            String call = "copy " + java.util.Arrays.toString(w);
            check.due(call, x.copy(0, w[0], 1, w[1], w[2]), -12);
        }
        check.due("copy: four", x.copy(0, 0, 1, 1, 4), 4);
        check.due("copy: none from the end", x.copy(0, 4, 1, 5, 0), 0);
    }

    private static void menBy() {
        BeardsAreBonds x = new BeardsAreBonds();
        Check.sheet(x, 0, 1, 99, 0, 1, 2, 3, 4, 500, 6, 0, 0, 5, 9, 999);
        check.due("four, one is none", x.menBy(0, 1, 1, 4), 3);
        int[][] want = {{0, 1, 2}, {3, 4, 500}, {5, 9, 999}};
        for (int m = 0; m < 3; m++) {
            for (int what = 0; what < 3; what++) {
                check.due("told(" + m + ", " + what + ")", x.told(m, what), want[m][what]);
            }
        }
        check.due("none", x.menBy(0, 1, 0, 0), 0);
        check.due("the last one", x.menBy(0, 1, 10, 1), 1);
        check.due("of three two have room", x.menBy(0, 1, 1, 2), 2);
        check.due("there is no room", x.menBy(0, 1, 1, 2), 0);
        check.due("six men", x.count(0), 6);
    }

    private static void menByRefused() {
        BeardsAreBonds x = new BeardsAreBonds();
        check.due("menBy: sheet 4", x.menBy(4, 0, 0, 0), -2);
        check.due("menBy: sort -1", x.menBy(0, -1, 0, 0), -2);
        check.due("menBy: sort 3", x.menBy(0, 3, 0, 0), -2);
        check.due("menBy: n -1", x.menBy(0, 0, 0, -1), -2);
        check.due("menBy: n 7", x.menBy(0, 0, 0, 7), -2);
        check.due("menBy: missing", x.menBy(0, 0, 0, 0), -11);
        x.sheet(0, 0, 8);
        check.due("menBy: of another sort", x.menBy(0, 1, 99, 1), -13);
        check.due("menBy: place -1", x.menBy(0, 0, -1, 1), -12);
        check.due("menBy: place, most", x.menBy(0, 0, MAX, 6), -12);
        check.due("menBy: place, least", x.menBy(0, 0, MIN, 6), -12);
        check.due("menBy: place 6", x.menBy(0, 0, 6, 1), -12);
        check.due("none came", x.count(0), 0);
        check.due("menBy: the third is outside", x.menBy(0, 0, 0, 3), -12);
        check.due("what stood ahead came", x.count(0), 2);
        x.menBy(0, 0, 0, 2);
        x.menBy(0, 0, 0, 2);
        check.due("outside, though there is no room", x.menBy(0, 0, 0, 3), -12);
    }

    private static void taken() {
        BeardsAreBonds x = new BeardsAreBonds();
        for (int kind = 0; kind < 6; kind++) {
            check.due("taken: nothing there", x.taken(kind, 0), -11);
            x.man(kind, 0, 0);
        }
        boolean[][] is = {{true}, {true, true}, {true, false, true}, {true, true, false, true},
            {true, false, true, false, true}, {true, false, false, false, false, true}};
        for (int m = 0; m < 6; m++) {
            for (int kind = 0; kind < 7; kind++) {
                boolean isOne = kind < is[m].length && is[m][kind];
                check.due("taken(" + m + ", " + kind + ")", x.taken(m, kind), isOne ? m : -13);
            }
        }
        for (int v = 0; v < 8; v++) {
            check.due("taken: no vow there", x.taken(6 + v, 6), -11);
            x.vow(1, 10 + v, 0);
            check.due("taken: inches", x.taken(6 + v, 6), 10 + v);
        }
        for (int kind = 0; kind < 6; kind++) {
            check.due("taken: a vow for a man", x.taken(13, kind), -13);
        }
        check.due("taken: kind -1", x.taken(99, -1), -2);
        check.due("taken: kind 7", x.taken(0, 7), -2);
        check.due("taken: place -1", x.taken(-1, 0), -12);
        check.due("taken: place 14", x.taken(14, 6), -12);
        check.due("taken: place, least", x.taken(MIN, 6), -12);
        x.live();
        check.due("taken: a broken vow", x.taken(6, 6), 10);
    }
}
