import java.util.Random;

/** The edges of rings, of clearing, of credit, of falling, of the barber's day. */
public final class RingEdgesTest {
    private static final Check check = new Check("RingEdgesTest");

    public static void main(String[] args) {
        emptyTown();
        smallestRing();
        greatestRing();
        noManTwice();
        onlyWhatStands();
        lowestFirst();
        leastInches();
        clearedAtOnce();
        clearedTillNone();
        whateverIsCleared();
        nets();
        whoMayFall();
        lessThanOwed();
        steps();
        longestFall();
        pillars();
        dayOfOne();
        dayOfSix();
        dayTies();
        dayAgainstAllOrders();
        check.end();
    }

    private static BeardsAreBonds men(int... beards) {
        BeardsAreBonds x = new BeardsAreBonds();
        for (int beard : beards) {
            x.man(0, 0, beard);
        }
        return x;
    }

    private static void ring(BeardsAreBonds x, String call, int vows, int least) {
        check.due("ring, vows: " + call, x.ring(0), vows);
        check.due("ring, least: " + call, x.ring(1), least);
    }

    /** Nobody, no vow. */
    private static void emptyTown() {
        BeardsAreBonds x = new BeardsAreBonds();
        ring(x, "nobody", 0, 0);
        check.due("clear: nobody", x.clear(), 0);
        check.due("net: nobody", x.net(0), -1000005);
        check.due("falls: nobody", x.falls(0, 0), 0);
        check.due("falls: nobody, steps", x.falls(0, 1), 0);
        check.due("falls: 0 of none", x.falls(1, 0), -2);
        check.due("pillar: nobody", x.pillar(0), -1);
        check.due("pillar: nobody, how many", x.pillar(1), -1);
        for (int goal = 0; goal < 2; goal++) {
            check.due("day: nobody", x.day(goal, 0), 0);
            check.due("day: nobody, order", x.day(goal, 1), 0);
        }
    }

    private static void smallestRing() {
        BeardsAreBonds x = men(0, 0, 0);
        x.vow(1, 200, 9);
        ring(x, "one vow", 0, 0);
        x.vow(12, 200, 9);
        ring(x, "a row of two", 0, 0);
        x.vow(10, 1, 9);
        ring(x, "there and back", 5, 1);
        check.due("clear", x.clear(), 2);
        ring(x, "cleared", 0, 0);
    }

    private static void greatestRing() {
        BeardsAreBonds x = men(0, 0, 0, 0, 0, 0);
        x.vow(1, 8, 9);
        x.vow(12, 7, 9);
        x.vow(23, 6, 9);
        x.vow(34, 5, 9);
        x.vow(45, 9, 9);
        ring(x, "a row of six men", 0, 0);
        x.vow(50, 10, 9);
        ring(x, "six men", 63, 5);
        check.due("clear", x.clear(), 30);
        int[] left = {3, 2, 1, 0, 4, 5};
        for (int v = 0; v < 6; v++) {
            check.due("left of " + v, x.bond(v, 2), left[v]);
            check.due("state of " + v, x.bond(v, 5), v == 3 ? 3 : 0);
        }
    }

    /** A way that meets itself again ahead of its first man is no ring. */
    private static void noManTwice() {
        BeardsAreBonds x = men(0, 0, 0, 0);
        x.vow(1, 5, 9);
        x.vow(12, 5, 9);
        x.vow(21, 5, 9);
        ring(x, "0 leads to a ring that he is not in", 6, 5);
        BeardsAreBonds y = men(0, 0, 0);
        // 0 to 1, 1 to 2, 2 to 1 again, 1 to 0: 1 would be there twice
        y.vow(1, 5, 9);
        y.vow(12, 5, 9);
        y.vow(21, 5, 9);
        y.vow(10, 5, 9);
        ring(y, "the short way", 9, 5);
        BeardsAreBonds z = men(0, 0, 0);
        // the same man by two vows at once
        z.vow(1, 5, 9);
        z.vow(1, 4, 9);
        ring(z, "two alike are no ring", 0, 0);
        z.vow(10, 3, 9);
        z.vow(10, 2, 9);
        ring(z, "the lowest of each", 5, 3);
    }

    private static void onlyWhatStands() {
        BeardsAreBonds x = men(50, 0, 0);
        x.vow(1, 5, 0);
        x.vow(10, 5, 9);
        ring(x, "both stand", 3, 5);
        x.live();
        ring(x, "one is paid", 0, 0);
        BeardsAreBonds y = men(0, 0, 0);
        y.vow(1, 200, 0);
        y.vow(10, 5, 9);
        y.live();
        ring(y, "one is broken", 0, 0);
        check.due("clear: none", y.clear(), 0);
        check.due("it has its inches", y.bond(1, 2), 5);
        BeardsAreBonds z = men(0, 0, 0);
        z.vow(1, 5, 9);
        z.vow(10, 5, 9);
        z.clear();
        ring(z, "cleared ones", 0, 0);
        z.vow(1, 5, 9);
        ring(z, "a cleared one and a new one", 0, 0);
    }

    /** The lowest vow with which any ring begins; then the lowest that can be next so that it closes. */
    private static void lowestFirst() {
        BeardsAreBonds x = men(0, 0, 0, 0);
        x.vow(23, 9, 9);
        x.vow(12, 8, 9);
        x.vow(1, 7, 9);
        x.vow(30, 6, 9);
        x.vow(20, 5, 9);
        x.vow(31, 4, 9);
        x.vow(32, 3, 9);
        // vow 0: 2 to 3; behind it 3 (to 0), 5 (to 1), 6 (to 2): 3 closes by 2 and 1
        ring(x, "the lowest next one closes by a long way", 15, 6);
        x.pass(2, 3);
        // 0 leads to 3 now, where the way has been: 5 is the lowest next one
        ring(x, "the lowest one doesn't close", 1 | 2 | 32, 4);
        x.pass(1, 3);
        ring(x, "only the short way", 1 | 64, 3);
        x.pass(6, 1);
        ring(x, "the lowest vow is in none", 2 | 32, 4);
    }

    private static void leastInches() {
        int[][] rows = {{1, 200, 1}, {200, 1, 1}, {200, 200, 200}, {7, 7, 7}, {8, 7, 7}};
        for (int[] row : rows) {
            BeardsAreBonds x = men(0, 0);
            x.vow(1, row[0], 9);
            x.vow(10, row[1], 9);
            ring(x, row[0] + " and " + row[1], 3, row[2]);
            check.due("clear", x.clear(), 2 * row[2]);
            check.due("left of the first", x.bond(0, 2), row[0] - row[2]);
            check.due("left of the second", x.bond(1, 2), row[1] - row[2]);
            check.due("state of the first", x.bond(0, 5), row[0] == row[2] ? 3 : 0);
            check.due("state of the second", x.bond(1, 5), row[1] == row[2] ? 3 : 0);
        }
    }

    /** Whose are 0 then is CLEARED: more than one, too; DUE stays, plaited with none. */
    private static void clearedAtOnce() {
        BeardsAreBonds x = men(0, 0, 0);
        x.vow(1, 4, 5);
        x.vow(12, 4, 6);
        x.vow(20, 4, 7);
        x.vow(1, 9, 3);
        x.plaits(0, 3);
        check.due("clear", x.clear(), 12);
        for (int v = 0; v < 3; v++) {
            check.due("cleared " + v, x.bond(v, 5), 3);
            check.due("no inches " + v, x.bond(v, 2), 0);
            check.due("due " + v, x.bond(v, 3), 5 + v);
            check.due("with none " + v, x.bond(v, 4), -1);
            check.due("matures " + v, x.bond(v, 6), 5 + v);
        }
        check.due("the other one stands", x.bond(3, 5), 0);
        check.due("with none", x.bond(3, 4), -1);
        check.due("matures as due", x.bond(3, 6), 3);
        check.due("run: a cleared one is not paid", x.run(60, 3), 9);
    }

    /** Again and again: eight vows, the most that there can be. */
    private static void clearedTillNone() {
        BeardsAreBonds x = men(0, 0);
        x.vow(1, 10, 9);
        x.vow(1, 20, 9);
        x.vow(1, 30, 9);
        x.vow(1, 40, 9);
        x.vow(10, 25, 9);
        x.vow(10, 25, 9);
        x.vow(10, 25, 9);
        x.vow(10, 26, 9);
        check.due("clear", x.clear(), 200);
        for (int v = 0; v < 8; v++) {
            check.due("left of " + v, x.bond(v, 2), v == 7 ? 1 : 0);
            check.due("state of " + v, x.bond(v, 5), v == 7 ? 0 : 3);
        }
        check.due("clear again", x.clear(), 0);
    }

    /** Till there is none; what all owe one another stays. */
    private static void whateverIsCleared() {
        Random dice = new Random(20);
        for (int r = 0; r < 200; r++) {
            BeardsAreBonds x = men(0, 0, 0, 0);
            int[] inches = new int[8];
            for (int v = 0; v < 8; v++) {
                int from = dice.nextInt(4);
                x.vow(10 * from + (from + 1 + dice.nextInt(3)) % 4, inches[v] = 1 + dice.nextInt(9), 9);
            }
            int least = x.ring(1);
            int ring = x.ring(0);
            int net = x.net(0);
            int less = 0;
            x.image();
            int all = x.clear();
            int sum = 0;
            for (int v = 0; v < 8; v++) {
                less += inches[v] - x.bond(v, 2);
                sum += (ring >> v & 1) == 1 ? least : 0;
                check.due("cleared, if it has none", x.bond(v, 5), x.bond(v, 2) == 0 ? 3 : 0);
                check.due("the first ring's are less by it at least",
                    (ring >> v & 1) == 1 && inches[v] - x.bond(v, 2) < least ? 1 : 0, 0);
            }
            check.due("by how many all are less", all, less);
            check.due("the first ring's at least", all >= sum ? 1 : 0, 1);
            check.due("no ring is left", x.ring(0), 0);
            check.due("net stays", x.net(0), net);
        }
    }

    private static void nets() {
        BeardsAreBonds x = men(0, 0);
        check.due("nothing", x.net(0), 0);
        for (int v = 0; v < 8; v++) {
            x.vow(1, 200, 9);
        }
        check.due("the least", x.net(0), -1600);
        check.due("the most", x.net(1), 1600);
        check.due("man -1", x.net(-1), -1000005);
        check.due("man 2 of two", x.net(2), -1000005);
        check.due("man MIN", x.net(Integer.MIN_VALUE), -1000005);
        BeardsAreBonds y = men(50, 0, 0);
        y.vow(1, 7, 0);
        y.vow(20, 5, 1);
        y.vow(12, 3, 9);
        y.vow(21, 3, 9);
        check.due("all stand", y.net(0), -2);
        y.live();
        check.due("without the paid one", y.net(0), 5);
        check.due("of the other, too", y.net(1), 0);
        y.clear();
        check.due("without the cleared ones", y.net(2), -5);
        y.live();
        check.due("without the broken one", y.net(0), 0);
    }

    /** first: bits of MEN that there are. */
    private static void whoMayFall() {
        for (int men = 0; men <= 6; men++) {
            BeardsAreBonds x = men(new int[men]);
            for (int first = -2; first < 130; first++) {
                boolean right = first >= 0 && first < 1 << men;
                check.due("falls(" + first + ") of " + men, x.falls(first, 0), right ? first : -2);
                check.due("falls(" + first + ") of " + men + ", steps", x.falls(first, 1), right ? 0 : -2);
            }
            check.due("falls(MIN)", x.falls(Integer.MIN_VALUE, 0), -2);
            check.due("falls(MAX)", x.falls(Integer.MAX_VALUE, 0), -2);
        }
    }

    /** For less than is OWED by him: just as much is enough. */
    private static void lessThanOwed() {
        for (int kind = 0; kind < 6; kind++) {
            BeardsAreBonds x = new BeardsAreBonds();
            x.man(kind, 4, 50);
            x.man(0, 0, 0);
            int counts = x.told(0, 6);
            x.vow(1, counts, 9);
            check.due("kind " + kind + ", just as much", x.falls(0, 0), 0);
            x.vow(1, 1, 9);
            check.due("kind " + kind + ", one more is owed", x.falls(0, 0), 1);
            x.vow(10, 1, 9);
            check.due("kind " + kind + ", one to him is enough", x.falls(0, 0), 0);
            check.due("kind " + kind + ", but not from one who has fallen", x.falls(2, 0), 3);
            check.due("kind " + kind + ", in a step", x.falls(2, 1), 1);
        }
    }

    /** FROM those who had not fallen ahead of the step. */
    private static void steps() {
        BeardsAreBonds x = men(0, 0, 0);
        // 2 has nothing to him and falls; 1 has 5 from 0 yet
        x.vow(21, 5, 9);
        x.vow(10, 5, 9);
        x.vow(1, 5, 9);
        check.due("who", x.falls(0, 0), 4);
        check.due("steps", x.falls(0, 1), 1);
        x.pass(2, 2);
        check.due("who, in a ring", x.falls(0, 0), 0);
        check.due("no step", x.falls(0, 1), 0);
        check.due("from 2 on", x.falls(4, 0), 7);
        check.due("in two steps", x.falls(4, 1), 2);
        check.due("from 2 and 1 on", x.falls(6, 0), 7);
        check.due("in one step", x.falls(6, 1), 1);
        check.due("all", x.falls(7, 0), 7);
        check.due("in none", x.falls(7, 1), 0);
        x.set(1, 0, 5);
        check.due("1 holds out", x.falls(4, 0), 4);
        check.due("no step", x.falls(4, 1), 0);
    }

    /** Five steps at most, of six men. */
    private static void longestFall() {
        BeardsAreBonds x = men(0, 0, 0, 0, 0, 0);
        x.vow(1, 5, 9);
        x.vow(12, 5, 9);
        x.vow(23, 5, 9);
        x.vow(34, 5, 9);
        x.vow(45, 5, 9);
        x.vow(50, 5, 9);
        for (int m = 0; m < 6; m++) {
            check.due("all, from " + m, x.falls(1 << m, 0), 63);
            check.due("in five steps, from " + m, x.falls(1 << m, 1), 5);
        }
        check.due("pillar: the first", x.pillar(0), 0);
        check.due("pillar: six", x.pillar(1), 6);
        x.set(3, 0, 5);
        check.due("pillar: not 0 now, by whom three fall", x.falls(1, 0), 7);
        check.due("pillar: who, all the others and he", x.pillar(0), 3);
        check.due("pillar: how many", x.pillar(1), 6);
    }

    /** Of like ones the first; one man alone; those who fall by none count for each. */
    private static void pillars() {
        BeardsAreBonds x = men(0);
        check.due("one man", x.pillar(0), 0);
        check.due("one man, how many", x.pillar(1), 1);
        for (int m = 1; m < 6; m++) {
            x.man(0, 0, 0);
            check.due("the first of many", x.pillar(0), 0);
            check.due("one falls", x.pillar(1), 1);
        }
        x.vow(50, 9, 9);
        // 5 falls by himself: each other one and 5 are two
        check.due("the first with whom two fall", x.pillar(0), 0);
        check.due("two fall", x.pillar(1), 2);
        x.set(5, 0, 9);
        x.vow(34, 9, 9);
        x.set(3, 0, 8);
        x.vow(23, 1, 9);
        x.set(2, 0, 1);
        // 3 has 8 and 1 from 2: he falls with 2
        check.due("the one who holds another", x.pillar(0), 2);
        check.due("two of them", x.pillar(1), 2);
        check.due("pillar: BAD with nobody", new BeardsAreBonds().pillar(2), -2);
    }

    private static void dayOfOne() {
        BeardsAreBonds x = men(0);
        x.set(0, 2, 9);
        for (int goal = 0; goal < 2; goal++) {
            check.due("one man waits for nobody", x.day(goal, 0), 0);
            check.due("one man's order", x.day(goal, 1), 1);
        }
        x.man(0, 0, 0);
        x.vow(1, 1, 0);
        x.vow(10, 200, 0);
        Check.law(x, "grows 0;trims 9;shames 0;");
        x.live();
        check.due("both are shorn", x.day(0, 0), 0);
        check.due("nobody: 0", x.day(0, 1), 0);
        x.man(0, 0, 0);
        check.due("the third alone", x.day(0, 0), 0);
        check.due("his order", x.day(0, 1), 3);
    }

    /** trims and 1 minutes; six men, trims at their least and their greatest. */
    private static void dayOfSix() {
        BeardsAreBonds x = men(0, 0, 0, 0, 0, 0);
        Check.law(x, "grows 0;trims 0;shames 0;");
        check.due("a minute each", x.day(0, 0), 15);
        check.due("the first order", x.day(0, 1), 123456);
        Check.law(x, "grows 0;trims 99;shames 0;");
        check.due("a hundred minutes each", x.day(0, 0), 1500);
        for (int m = 0; m < 6; m++) {
            x.set(m, 2, 9);
        }
        check.due("times rank", x.day(1, 0), 13500);
        check.due("the first order", x.day(1, 1), 123456);
        for (int m = 0; m < 6; m++) {
            x.set(m, 2, m + 1);
        }
        check.due("by rank, the highest first", x.day(1, 1), 654321);
        check.due("no rank in goal 0", x.day(0, 1), 123456);
        Check.law(x, "grows 0;trims 9-rank;shames 0;");
        check.due("the shortest first", x.day(0, 1), 654321);
        Check.law(x, "grows 0;trims week;shames 0;");
        check.due("in THE WEEK", x.day(0, 0), 15);
        x.live();
        check.due("in THE WEEK, a week on", x.day(0, 0), 30);
    }

    /** Of like ones the first: by who is first, then next. */
    private static void dayTies() {
        BeardsAreBonds x = men(0, 0, 0, 0);
        Check.law(x, "grows 0;trims more;shames 0;");
        check.due("all alike", x.day(0, 1), 1234);
        x.set(2, 2, 1);
        check.due("only 3 has a rank: he is first, then as they come", x.day(1, 1), 3124);
        check.due("nobody of rank waits", x.day(1, 0), 0);
        x.set(0, 2, 1);
        check.due("two of like rank", x.day(1, 1), 1324);
        check.due("the second waits a minute", x.day(1, 0), 1);
        for (int m = 0; m < 4; m++) {
            x.set(m, 2, 0);
        }
        check.due("no rank at all", x.day(1, 0), 0);
        check.due("no rank at all: as they come", x.day(1, 1), 1234);
    }

    private static int least, order;

    private static void dayAgainstAllOrders() {
        Random dice = new Random(24);
        for (int r = 0; r < 60; r++) {
            int men = 2 + dice.nextInt(5);
            BeardsAreBonds x = new BeardsAreBonds();
            int[] minutes = new int[men];
            int[] rank = new int[men];
            for (int m = 0; m < men; m++) {
                int more = dice.nextInt(4);
                rank[m] = dice.nextInt(4);
                minutes[m] = more + 1;
                x.man(0, more, 0);
                x.set(m, 2, rank[m]);
            }
            Check.law(x, "grows 0;trims more;shames 0;");
            for (int goal = 0; goal < 2; goal++) {
                least = Integer.MAX_VALUE;
                seat(goal, minutes, rank, 0, 0, 0, 0);
                check.due("least of goal " + goal, x.day(goal, 0), least);
                check.due("order of goal " + goal, x.day(goal, 1), order);
            }
        }
    }

    private static void seat(int goal, int[] minutes, int[] rank, int seated, int clock, int waits, int digits) {
        if (seated == (1 << minutes.length) - 1 && waits < least) {
            least = waits;
            order = digits;
        }
        for (int m = 0; m < minutes.length; m++) {
            if ((seated >> m & 1) == 0) {
                seat(goal, minutes, rank, seated | 1 << m, clock + minutes[m],
                    waits + clock * (goal == 0 ? 1 : rank[m]), digits * 10 + m + 1);
            }
        }
    }
}
