/** Promises 19 to 24: ring, clear, net, falls, pillar, day. */
public final class RingsTest {
    private static final Check check = new Check("RingsTest");

    public static void main(String[] args) {
        rings();
        firstOfRings();
        clearing();
        clearedPlait();
        nets();
        falling();
        fallingBySteps();
        pillars();
        days();
        daysByRank();
        check.end();
    }

    private static BeardsAreBonds men(int n, int beard) {
        BeardsAreBonds x = new BeardsAreBonds();
        for (int m = 0; m < n; m++) {
            x.man(0, 0, beard);
        }
        return x;
    }

    private static void rings() {
        BeardsAreBonds x = men(6, 100);
        check.due("ring(-1)", x.ring(-1), -2);
        check.due("ring(2)", x.ring(2), -2);
        check.due("no ring", x.ring(0), 0);
        check.due("no ring, inches", x.ring(1), 0);
        x.vow(1, 10, 500);
        x.vow(12, 20, 500);
        x.vow(23, 30, 500);
        x.vow(34, 40, 500);
        x.vow(45, 50, 500);
        check.due("a row is no ring", x.ring(0), 0);
        x.vow(50, 5, 500);
        check.due("all six", x.ring(0), 63);
        check.due("the least of them", x.ring(1), 5);
        x.vow(32, 60, 500);
        check.due("the lowest vow begins", x.ring(0), 63);
        x.pass(4, 3);
        check.due("the ring of 2 and 3", x.ring(0), 64 | 4);
        check.due("its least", x.ring(1), 30);
    }

    private static void firstOfRings() {
        BeardsAreBonds x = men(4, 100);
        // vow 0 is in no ring; 1 begins a ring with 2 and 4, and one with 3
        x.vow(30, 1, 50);
        x.vow(1, 2, 50);
        x.vow(12, 3, 50);
        x.vow(10, 4, 50);
        x.vow(20, 5, 50);
        check.due("2 is lower than 3", x.ring(0), 2 | 4 | 16);
        check.due("its least", x.ring(1), 2);
        // a blind way: 2 goes to a man from whom no way leads on
        x.pass(4, 3);
        check.due("from 3 to 0 again", x.ring(0), 1 | 2 | 4 | 16);
        x.pass(0, 1);
        check.due("3 leads to 1, who was in it", x.ring(0), 1 | 4 | 16);
        BeardsAreBonds y = men(3, 0);
        y.vow(1, 2, 0);
        y.vow(10, 3, 5);
        check.due("two", y.ring(0), 3);
        y.live();
        check.due("paid ones are in none", y.ring(0), 0);
    }

    private static void clearing() {
        BeardsAreBonds x = men(3, 100);
        check.due("nothing to clear", x.clear(), 0);
        x.vow(1, 50, 20);
        x.vow(10, 50, 20);
        x.vow(1, 7, 20);
        x.vow(12, 9, 20);
        check.due("clear", x.clear(), 100);
        check.due("vow 0", x.bond(0, 5), 3);
        check.due("vow 1", x.bond(1, 5), 3);
        check.due("vow 2", x.bond(2, 5), 0);
        check.due("vow 0 has no inches", x.bond(0, 2), 0);
        check.due("plaits: a cleared one", x.plaits(0, 2), -3);
        check.due("pass: a cleared one", x.pass(0, 2), -3);
        check.due("he owes", x.told(0, 8), 7);
        x.vow(20, 3, 20);
        check.due("clear: three", x.clear(), 9);
        check.due("vow 2 less", x.bond(2, 2), 4);
        check.due("vow 3 less", x.bond(3, 2), 6);
        check.due("vow 4 cleared", x.bond(4, 5), 3);
        check.due("clear again", x.clear(), 0);
    }

    private static void clearedPlait() {
        BeardsAreBonds x = men(2, 100);
        x.vow(1, 10, 20);
        x.vow(1, 30, 5);
        x.vow(10, 10, 20);
        x.vow(1, 9, 33);
        x.plaits(0, 1);
        check.due("matures", x.bond(1, 6), 20);
        check.due("clear", x.clear(), 20);
        check.due("cleared, with none", x.bond(0, 4), -1);
        check.due("the other one with none", x.bond(1, 4), -1);
        check.due("it matures as due", x.bond(1, 6), 5);
        check.due("it can be plaited anew", x.plaits(1, 3), 33);
        x.vow(10, 5, 20);
        check.due("less, not cleared", x.clear(), 10);
        check.due("plaited yet", x.bond(1, 4), 3);
    }

    private static void nets() {
        BeardsAreBonds x = men(3, 100);
        check.due("net(-1)", x.net(-1), -1000005);
        check.due("net(3)", x.net(3), -1000005);
        x.vow(1, 50, 20);
        x.vow(12, 30, 20);
        x.vow(20, 200, 0);
        x.vow(10, 1, 30);
        check.due("net(0)", x.net(0), 151);
        check.due("net(1)", x.net(1), 19);
        check.due("net(2)", x.net(2), -170);
        x.live();
        check.due("net(0) without the broken one", x.net(0), -49);
    }

    private static void falling() {
        BeardsAreBonds x = men(3, 10);
        check.due("falls(-1, 0)", x.falls(-1, 0), -2);
        check.due("falls(8, 0)", x.falls(8, 0), -2);
        check.due("falls(0, -1)", x.falls(0, -1), -2);
        check.due("falls(0, 2)", x.falls(0, 2), -2);
        check.due("falls(7, 0)", x.falls(7, 0), 7);
        check.due("falls(7, 1)", x.falls(7, 1), 0);
        x.vow(1, 10, 20);
        check.due("10 is not less than 10", x.falls(0, 0), 0);
        x.vow(2, 1, 20);
        check.due("10 is less than 11", x.falls(0, 0), 1);
        check.due("in a step", x.falls(0, 1), 1);
        x.vow(10, 1, 20);
        check.due("one to him helps", x.falls(0, 0), 0);
        check.due("but not from a fallen one", x.falls(2, 0), 3);
        BeardsAreBonds y = new BeardsAreBonds();
        y.man(1, 0, 10);
        y.man(4, 5, 50);
        y.vow(1, 20, 20);
        y.vow(10, 20, 20);
        check.due("what it counts for", y.falls(3, 1), 0);
        check.due("counts 20, owes 20", y.falls(2, 0), 2);
        check.due("counts 20, owes 20", y.falls(1, 0), 1);
    }

    private static void fallingBySteps() {
        BeardsAreBonds x = men(5, 0);
        x.vow(12, 20, 20);
        x.vow(1, 20, 20);
        x.vow(23, 20, 20);
        x.vow(30, 20, 20);
        // each has 20 to him, and owes 20; 4 is out of it
        check.due("nobody", x.falls(0, 0), 0);
        check.due("4 alone", x.falls(16, 0), 16);
        check.due("all four", x.falls(1, 0), 15);
        check.due("one by one", x.falls(1, 1), 3);
        check.due("from both ends", x.falls(5, 0), 15);
        check.due("in a step", x.falls(5, 1), 1);
        x.set(2, 0, 20);
        check.due("2 stands", x.falls(1, 0), 3);
        check.due("in a step", x.falls(1, 1), 1);
        check.due("from 3 on", x.falls(8, 0), 11);
        check.due("two steps", x.falls(8, 1), 2);
    }

    private static void pillars() {
        BeardsAreBonds x = new BeardsAreBonds();
        check.due("pillar: nobody", x.pillar(0), -1);
        check.due("pillar: nobody", x.pillar(1), -1);
        check.due("pillar(-1)", x.pillar(-1), -2);
        check.due("pillar(2)", x.pillar(2), -2);
        x = men(4, 0);
        check.due("of like ones the first", x.pillar(0), 0);
        check.due("alone", x.pillar(1), 1);
        x.vow(31, 20, 20);
        x.vow(12, 20, 20);
        x.set(3, 0, 50);
        check.due("3 holds 1", x.pillar(0), 3);
        check.due("two", x.pillar(1), 2);
        x.vow(20, 20, 20);
        check.due("3 holds 1, 1 holds 2", x.pillar(1), 3);
    }

    private static void days() {
        BeardsAreBonds x = new BeardsAreBonds();
        check.due("day(-1, 0)", x.day(-1, 0), -2);
        check.due("day(2, 0)", x.day(2, 0), -2);
        check.due("day(0, -1)", x.day(0, -1), -2);
        check.due("day(0, 2)", x.day(0, 2), -2);
        check.due("nobody", x.day(0, 0), 0);
        check.due("nobody's order", x.day(0, 1), 0);
        x.man(0, 5, 0);
        x.man(0, 1, 0);
        x.man(0, 3, 0);
        x.man(0, 1, 0);
        Check.law(x, "grows 0;trims more+week;shames 0;");
        // minutes 6, 2, 4, 2: 2 and 4 and 8
        check.due("waits", x.day(0, 0), 14);
        check.due("order", x.day(0, 1), 2431);
        x.vow(12, 200, 0);
        x.live();
        // minutes 7, -, 5, 3: 3 and 8
        check.due("waits without the shorn one", x.day(0, 0), 11);
        check.due("order without the shorn one", x.day(0, 1), 431);
    }

    private static void daysByRank() {
        BeardsAreBonds x = men(3, 0);
        check.due("no ranks: 0", x.day(1, 0), 0);
        check.due("no ranks: the first order", x.day(1, 1), 123);
        x.set(1, 2, 4);
        x.set(2, 2, 9);
        // 3 minutes each: 0, 3 * 4, 6 * 0
        check.due("waits", x.day(1, 0), 12);
        check.due("order", x.day(1, 1), 321);
        Check.law(x, "grows 0;trims rank*rank;shames 0;");
        // minutes 1, 17, 82; ranks 0, 4, 9
        check.due("waits", x.day(1, 0), 153);
        check.due("order", x.day(1, 1), 231);
        // the least rank waits longest; a rank of 0 first costs the others
        check.due("waits by minutes", x.day(0, 0), 19);
        check.due("order by minutes", x.day(0, 1), 123);
    }
}
