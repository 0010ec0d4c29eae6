/** Promises 14 to 18: live, run, ripe, soonest, take. */
public final class WeeksTest {
    private static final Check check = new Check("WeeksTest");

    public static void main(String[] args) {
        growing();
        paying();
        shearing();
        trimsAndOwed();
        plaited();
        lastWeek();
        weekThousand();
        running();
        runRefused();
        ripening();
        soonest();
        offers();
        offersRefused();
        check.end();
    }

    /** The beard of a man of that kind behind one week's growing, the text saying so much. */
    private static void grows(int kind, int more, int week, int said, int want) {
        BeardsAreBonds x = new BeardsAreBonds();
        Check.law(x, "grows 0;trims 0;shames 0;");
        for (int w = 0; w < week; w++) {
            x.live();
        }
        x.man(kind, more, 0);
        Check.law(x, "grows " + said + ";trims 0;shames 0;");
        x.live();
        String call = "kind " + kind + ", more " + more + ", week " + week + ", said " + said;
        check.due(call, x.told(0, 2), want);
    }

    private static void growing() {
        grows(0, 9, 0, 7, 7);
        grows(1, 9, 0, 7, 3);
        grows(1, 9, 0, 1, 0);
        grows(2, 3, 5, 7, 0);
        grows(2, 3, 6, 7, 8);
        grows(2, 0, 0, 0, 1);
        grows(3, 8, 0, 7, 5);
        grows(3, 2, 0, 7, 3);
        grows(4, 3, 2, 7, 2);
        grows(4, 3, 3, 7, 0);
        grows(4, 3, 6, 7, 10);
        grows(4, 3, 7, 7, 0);
        grows(4, 3, 8, 7, 10);
        grows(5, 7, 0, 11, 3);
        grows(5, 7, 9, 11, 3);
        grows(5, 7, 10, 11, 14);
        grows(5, 7, 42, 11, 14);
        grows(5, 7, 43, 11, 3);
        grows(5, 7, 51, 11, 3);
        grows(5, 7, 52, 11, 3);
        grows(5, 7, 61, 11, 3);
        grows(5, 7, 62, 11, 14);
        BeardsAreBonds x = new BeardsAreBonds();
        x.man(0, 0, 990);
        x.man(0, 0, 995);
        x.set(1, 1, 9);
        check.due("live", x.live(), 0);
        check.due("990 and 4", x.told(0, 2), 994);
        check.due("999 at most", x.told(1, 2), 999);
        check.due("the week", x.count(2), 1);
        Check.law(x, "grows 5-beard;trims 0;shames 0;");
        x.live();
        check.due("nothing below 0 is grown", x.told(0, 2), 994);
    }

    private static void paying() {
        BeardsAreBonds x = new BeardsAreBonds();
        x.man(0, 0, 20);
        x.man(1, 0, 10);
        x.man(0, 0, 0);
        x.vow(2, 24, 0);
        x.vow(12, 24, 1);
        x.vow(12, 2, 1);
        check.due("live", x.live(), 0);
        check.due("paid of 24: 0 at least", x.told(0, 2), 0);
        check.due("vow 0 is paid", x.bond(0, 5), 1);
        check.due("vow 1 stands", x.bond(1, 5), 0);
        check.due("its inches stay", x.bond(0, 2), 24);
        check.due("he owes no more", x.told(0, 8), 0);
        check.due("live", x.live(), 1);
        // 10 + 2 + 2 are 14, which count 28: 24 and 2 less are 0 at least; 2 does not count for 2
        check.due("vow 1 is paid", x.bond(1, 5), 1);
        check.due("vow 2 is broken", x.bond(2, 5), 2);
        check.due("he is shorn", x.told(1, 5), 1);
    }

    private static void shearing() {
        BeardsAreBonds x = new BeardsAreBonds();
        x.man(0, 0, 0);
        x.man(2, 9, 0);
        x.man(3, 0, 0);
        x.man(4, 9, 0);
        Check.law(x, "grows 0;trims 0;shames beard+owed;");
        x.vow(1, 50, 2);
        x.vow(2, 1, 900);
        x.vow(10, 50, 2);
        x.vow(20, 50, 2);
        x.vow(30, 50, 2);
        x.vow(12, 9, 1);
        int[] shorn = {0, 0, 2, 1, 0, 0, 1, 0};
        for (int w = 0; w < shorn.length; w++) {
            check.due("shorn in week " + w, x.live(), shorn[w]);
            if (w == 2) {
                // man 1 had grace of a week for vow 5, due in 1; man 0 none for vow 0
                check.due("shorn: 0", x.told(0, 5), 1);
                check.due("shorn: 1", x.told(1, 5), 1);
                check.due("all vows of 0 are broken", x.bond(1, 5), 2);
                check.due("all vows of 1 are broken", x.bond(2, 5), 2);
                check.due("vow 3 to a shorn one stands", x.bond(3, 5), 0);
            }
        }
        check.due("a shorn one owes nothing", x.told(2, 8), 0);
        check.due("broken", x.bond(4, 5), 2);
    }

    private static void trimsAndOwed() {
        BeardsAreBonds x = new BeardsAreBonds();
        x.man(0, 0, 100);
        x.man(0, 0, 0);
        Check.law(x, "grows 0;trims beard*(owed<1000)-70;shames beard+owed;");
        x.vow(1, 10, 0);
        check.due("run: beard", x.run(1, 10), 60);
        // a text is asked of him as he is ahead of what comes of it: he owes the vow yet
        Check.law(x, "grows 0;trims owed;shames beard+owed;");
        check.due("run: beard, trims of what he owes", x.run(1, 10), 80);
        x.vow(1, 20, 0);
        check.due("run: both are paid", x.run(1, 3), 30);
        check.due("run: 100 - 10 - 30 - 20 - 20", x.run(1, 10), 20);
        x.set(0, 0, 7);
        check.due("run: shames are asked with his beard, his vows", x.run(1, 4), 37);
    }

    private static void plaited() {
        BeardsAreBonds x = new BeardsAreBonds();
        x.man(0, 0, 100);
        x.man(0, 0, 0);
        x.vow(1, 30, 1);
        x.vow(1, 40, 3);
        x.plaits(0, 1);
        x.live();
        x.live();
        x.live();
        check.due("vow 0 is not due yet", x.bond(0, 5), 0);
        check.due("100 and 12", x.told(0, 2), 112);
        x.live();
        check.due("vow 0 is paid", x.bond(0, 5), 1);
        check.due("vow 1 is paid", x.bond(1, 5), 1);
        check.due("116 less 32 less 42", x.told(0, 2), 42);
        check.due("they are plaited yet", x.bond(0, 4), 1);
        check.due("vow 0 matured", x.bond(0, 6), 3);
    }

    private static void lastWeek() {
        BeardsAreBonds x = new BeardsAreBonds();
        x.man(0, 0, 0);
        for (int w = 0; w < 480; w++) {
            x.live();
        }
        check.due("week 480", x.count(2), 480);
        check.due("999 at most", x.told(0, 2), 999);
    }

    /** THE WEEK is 999 only behind more calls than are promised: what stands there is looked at yet. */
    private static void weekThousand() {
        BeardsAreBonds x = new BeardsAreBonds();
        x.man(0, 0, 0);
        x.man(0, 0, 0);
        for (int w = 0; w < 999; w++) {
            x.live();
        }
        check.due("week 999", x.count(2), 999);
        check.due("live: FULL", x.live(), -4);
        check.due("week 999 still", x.count(2), 999);
        x.set(0, 0, 0);
        x.vow(1, 200, 999);
        check.due("in thought it goes on", x.run(2, 2), 0);
        check.due("in thought it goes on", x.run(60, 11), 999);
    }

    private static void running() {
        BeardsAreBonds x = new BeardsAreBonds();
        x.man(0, 0, 0);
        x.man(0, 1, 50);
        x.man(0, 2, 60);
        Check.law(x, "grows 1;trims 0;shames 10+more;");
        x.vow(20, 200, 3);
        x.vow(12, 20, 2);
        x.vow(10, 200, 3);
        x.vow(12, 30, 40);
        x.vow(1, 1, 59);
        int[][] want = {
            {0, -1, -1, 0, 0, 0, 50, 60, 0, 0, 0, 0, 0},
            {0, -1, -1, 20, 0, 3, 33, 63, 0, 1, 0, 0, 0},
            {2, 2, 3, 20, 23, 4, 0, 0, 2, 1, 2, 2, 0},
            {2, 2, 3, 21, 23, 59, 0, 0, 2, 1, 2, 2, 1}};
        int[] n = {0, 3, 4, 60};
        int[] whats = {0, 1, 2, 3, 4, 10, 11, 12, 20, 21, 22, 23, 24};
        for (int i = 0; i < n.length; i++) {
            for (int k = 0; k < whats.length; k++) {
                check.due("run(" + n[i] + ", " + whats[k] + ")", x.run(n[i], whats[k]), want[i][k]);
            }
        }
        check.due("in thought: the week", x.count(2), 0);
        check.due("in thought: the beard", x.told(1, 2), 50);
        x.live();
        check.due("in which of them, from 0", x.run(60, 2), 2);
    }

    private static void runRefused() {
        BeardsAreBonds x = new BeardsAreBonds();
        check.due("run(-1, 0)", x.run(-1, 0), -2);
        check.due("run(61, 0)", x.run(61, 0), -2);
        check.due("run(61, 99)", x.run(61, 99), -2);
        x.man(0, 0, 0);
        x.man(0, 0, 0);
        x.vow(1, 1, 9);
        int[] wrong = {-1, 5, 9, 12, 15, 16, 19, 21, 27, 28, Integer.MIN_VALUE, Integer.MAX_VALUE};
        for (int what : wrong) {
            check.due("run(1, " + what + ")", x.run(1, what), -7);
        }
        check.due("run(1, 11)", x.run(1, 11), 4);
        check.due("run(1, 20)", x.run(1, 20), 0);
    }

    private static void ripening() {
        BeardsAreBonds x = new BeardsAreBonds();
        check.due("ripe: no man", x.ripe(0, 9999), -5);
        x.man(0, 0, 10);
        x.man(1, 0, 10);
        x.man(0, 0, 0);
        check.due("ripe: man -1", x.ripe(-1, 1), -5);
        check.due("ripe: -1", x.ripe(0, -1), -7);
        check.due("ripe: 1999", x.ripe(0, 1999), -7);
        check.due("ripe: 1998", x.ripe(0, 1998), -1);
        check.due("ripe: 0", x.ripe(0, 0), 0);
        check.due("ripe: 14", x.ripe(0, 14), 0);
        check.due("ripe: 15", x.ripe(0, 15), 1);
        check.due("ripe: 250", x.ripe(0, 250), 59);
        check.due("ripe: 251", x.ripe(0, 251), -1);
        check.due("ripe: grey, 24", x.ripe(1, 24), 0);
        check.due("ripe: grey, 25", x.ripe(1, 25), 1);
        x.vow(2, 14, 0);
        check.due("ripe: no vows being paid", x.ripe(0, 18), 1);
        x.vow(20, 200, 0);
        check.due("ripe: nobody is shorn in it", x.ripe(2, 8), 1);
        x.live();
        check.due("he is", x.told(2, 5), 1);
        check.due("ripe: a shorn one", x.ripe(2, 1), -1);
        check.due("ripe: a shorn one, 0", x.ripe(2, 0), 0);
        x.set(2, 0, 9);
        check.due("ripe: a shorn one, 9", x.ripe(2, 9), 0);
        check.due("ripe: a shorn one, 10", x.ripe(2, 10), -1);
    }

    private static void soonest() {
        BeardsAreBonds x = new BeardsAreBonds();
        check.due("soonest: no man", x.soonest(0, 0), -5);
        x.man(0, 0, 10);
        x.man(0, 0, 10);
        check.due("soonest: 0", x.soonest(0, 0), -7);
        check.due("soonest: 201", x.soonest(0, 201), -7);
        check.due("soonest: 1", x.soonest(0, 1), 0);
        check.due("soonest: 15", x.soonest(0, 15), 1);
        check.due("soonest: 200", x.soonest(0, 200), 47);
        x.vow(1, 200, 0);
        x.live();
        x.set(0, 0, 100);
        check.due("soonest: a shorn one", x.soonest(0, 1), -1);
        check.due("soonest: a shorn one, 0", x.soonest(0, 0), -7);
    }

    private static void taking(BeardsAreBonds x, int set, int inches, int... offers) {
        Check.sheet(x, 1, 2, offers);
        String call = "take of " + java.util.Arrays.toString(offers);
        check.due(call + ", 0", x.take(1, 0, 0), set);
        check.due(call + ", 1", x.take(1, 0, 1), inches);
    }

    private static void offers() {
        BeardsAreBonds x = new BeardsAreBonds();
        x.man(0, 0, 20);
        x.man(0, 0, 0);
        taking(x, 0, 0);
        taking(x, 1, 24, 24, 0);
        taking(x, 0, 0, 25, 0);
        taking(x, 1, 28, 28, 1);
        // behind week 0: 24; 10 and 2 less are 12, behind week 1: 16
        taking(x, 3, 26, 10, 0, 16, 1);
        taking(x, 2, 17, 10, 0, 17, 1);
        // by numbers in one week, trims from one to the next
        taking(x, 3, 22, 10, 0, 12, 0);
        taking(x, 2, 13, 10, 0, 13, 0);
        taking(x, 7, 24, 12, 0, 10, 0, 2, 1);
        // the first is paid of more than he has with trims: 0 at least
        taking(x, 3, 28, 24, 0, 4, 1);
        taking(x, 1, 24, 24, 0, 5, 1);
        // of like ones the least as bits
        taking(x, 1, 24, 24, 0, 24, 0);
        taking(x, 3, 20, 10, 0, 10, 0, 10, 0);
        taking(x, 1, 200, 200, 59, 200, 58);
        taking(x, 63, 6 * 16, 10, 0, 12, 1, 14, 9, 18, 18, 20, 30, 22, 59);
        // a vow else is neither paid, nor is he shorn for it
        x.vow(1, 200, 0);
        taking(x, 3, 26, 10, 0, 16, 1);
        x.live();
        x.set(0, 0, 100);
        taking(x, 0, 0, 10, 0, 16, 1);
    }

    private static void offersRefused() {
        BeardsAreBonds x = new BeardsAreBonds();
        check.due("take: sheet -1", x.take(-1, 0, 0), -2);
        check.due("take: sheet 4", x.take(4, 0, 0), -2);
        check.due("take: missing", x.take(0, 0, 0), -11);
        Check.sheet(x, 0, 1, 1, 0, 1);
        check.due("take: an odd size", x.take(0, 0, 0), -2);
        Check.sheet(x, 0, 1, 1, 0, 1, 0, 1, 0, 1, 0, 1, 0, 1, 0, 1, 0);
        check.due("take: seven offers", x.take(0, 0, 0), -2);
        Check.sheet(x, 0, 1, 1, 0, 1, 0, 1, 0, 1, 0, 1, 0, 1, 0);
        check.due("take: six offers", x.take(0, 0, 0), -5);
        int[][] wrong = {{0, 0}, {201, 0}, {-1, 0}, {1, -1}, {1, 60}, {1, 1, 1, 60}};
        for (int[] offers : wrong) {
            Check.sheet(x, 0, 1, offers);
            check.due("take of " + java.util.Arrays.toString(offers), x.take(0, 0, 0), -2);
        }
        Check.sheet(x, 0, 1, 1, 59, 200, 0);
        check.due("take: no man", x.take(0, 0, 9), -5);
        x.man(0, 0, 0);
        check.due("take: what -1", x.take(0, 0, -1), -7);
        check.due("take: what 2", x.take(0, 0, 2), -7);
        check.due("take: man -1", x.take(0, -1, 0), -5);
        check.due("take", x.take(0, 0, 0), 1);
        // a byte of 200 is -56
        Check.sheet(x, 0, 0, 200, 0);
        check.due("take: bytes", x.take(0, 0, 0), -2);
        Check.sheet(x, 0, 0, 127, 59);
        check.due("take: bytes", x.take(0, 0, 1), 127);
    }
}
