/** The edges of vows: what they may be, when they mature, who pays and who doesn't. */
public final class VowEdgesTest {
    private static final Check check = new Check("VowEdgesTest");

    public static void main(String[] args) {
        inches();
        dues();
        everyPair();
        owed();
        maturing();
        dueOrAhead();
        justEnough();
        nothingLeft();
        byNumbers();
        allHisVows();
        shamesAsHeIs();
        laterThanGrace();
        noWeekForShorn();
        twoInAWeek();
        lastOfSixty();
        weekNineHundred();
        check.end();
    }

    private static BeardsAreBonds men(String law, int... beards) {
        BeardsAreBonds x = new BeardsAreBonds();
        for (int beard : beards) {
            x.man(0, 0, beard);
        }
        Check.law(x, law);
        return x;
    }

    private static final String STILL = "grows 0;trims 0;shames 0;";

    /** INCHES 1 to 200. */
    private static void inches() {
        BeardsAreBonds x = men(STILL, 0, 0);
        check.due("0", x.vow(1, 0, 0), -2);
        check.due("201", x.vow(1, 201, 0), -2);
        check.due("1", x.vow(1, 1, 0), 0);
        check.due("200", x.vow(1, 200, 0), 1);
        check.due("1 it is", x.bond(0, 2), 1);
        check.due("200 it is", x.bond(1, 2), 200);
    }

    /** DUE 0 to 999, THE WEEK or behind it. */
    private static void dues() {
        BeardsAreBonds x = men(STILL, 0, 0);
        check.due("-1", x.vow(1, 1, -1), -2);
        check.due("1000", x.vow(1, 1, 1000), -2);
        check.due("0", x.vow(1, 1, 0), 0);
        check.due("999", x.vow(1, 1, 999), 1);
        x = men(STILL, 0, 0);
        for (int week = 0; week < 5; week++) {
            check.due("due in the week ahead", x.vow(1, 1, week - 1), week == 0 ? -2 : -3);
            x.live();
        }
        check.due("due this week", x.vow(1, 1, 5), 0);
        check.due("due next week", x.vow(1, 1, 6), 1);
        check.due("due last week", x.vow(1, 1, 4), -3);
    }

    /** Ten times FROM, and TO: any two of the men that there are. */
    private static void everyPair() {
        for (int men = 0; men <= 6; men++) {
            for (int fromTo = -12; fromTo < 120; fromTo++) {
                BeardsAreBonds x = new BeardsAreBonds();
                for (int m = 0; m < men; m++) {
                    x.man(0, 0, 0);
                }
                int from = fromTo / 10;
                int to = fromTo % 10;
                boolean right = fromTo >= 0 && from < men && to < men && from != to;
                String call = "vow(" + fromTo + ") of " + men + " men";
                check.due(call, x.vow(fromTo, 1, 0), right ? 0 : -2);
                check.due(call + ": from", x.bond(0, 0), right ? from : -6);
                check.due(call + ": to", x.bond(0, 1), right ? to : -6);
            }
        }
    }

    /** OWED: what stands, together; not what is paid, broken, cleared, nor what is to him. */
    private static void owed() {
        BeardsAreBonds x = men(STILL, 30, 0, 30);
        check.due("nothing", x.told(0, 8), 0);
        x.vow(1, 10, 0);
        x.vow(2, 5, 9);
        x.vow(10, 5, 1);
        x.vow(20, 5, 9);
        check.due("two", x.told(0, 8), 15);
        x.live();
        check.due("one is paid", x.told(0, 8), 5);
        check.due("1 owes", x.told(1, 8), 5);
        x.live();
        check.due("that is broken", x.told(1, 8), 0);
        x.clear();
        check.due("that is cleared", x.told(0, 8), 0);
        BeardsAreBonds y = men(STILL, 0, 0);
        for (int v = 0; v < 8; v++) {
            y.vow(1, 200, 9);
        }
        check.due("all eight", y.told(0, 8), 1600);
    }

    /** Plaited: in the later one of both. */
    private static void maturing() {
        int[][] dues = {{3, 3}, {3, 4}, {4, 3}, {0, 999}, {999, 0}};
        for (int[] due : dues) {
            BeardsAreBonds x = men(STILL, 0, 0, 0);
            x.vow(1, 1, due[0]);
            x.vow(2, 1, due[1]);
            check.due("alone: 0", x.bond(0, 6), due[0]);
            check.due("alone: 1", x.bond(1, 6), due[1]);
            int later = Math.max(due[0], due[1]);
            check.due("plaits", x.plaits(0, 1), later);
            check.due("plaited: 0", x.bond(0, 6), later);
            check.due("plaited: 1", x.bond(1, 6), later);
            check.due("due stays: 0", x.bond(0, 3), due[0]);
            check.due("due stays: 1", x.bond(1, 3), due[1]);
        }
        // both are looked at in the later week only
        BeardsAreBonds x = men(STILL, 0, 0);
        x.vow(1, 1, 2);
        x.vow(1, 1, 4);
        x.plaits(1, 0);
        check.due("not in the earlier week", x.run(4, 0), 0);
        check.due("in the later week", x.run(5, 0), 1);
        check.due("in which", x.run(60, 2), 4);
    }

    /** In this WEEK or ahead of it: a vow is looked at from the week on in which it matures. */
    private static void dueOrAhead() {
        BeardsAreBonds x = men(STILL, 100, 0);
        x.vow(1, 100, 3);
        check.due("ahead of it", x.run(3, 20), 0);
        check.due("in it", x.run(4, 20), 1);
        check.due("ahead of it, beard", x.run(3, 10), 100);
        check.due("in it, beard", x.run(4, 10), 0);
        // a hermit pays two weeks behind it, when he can
        BeardsAreBonds y = new BeardsAreBonds();
        y.man(3, 0, 0);
        y.man(0, 0, 0);
        Check.law(y, "grows 2;trims 0;shames 0;");
        y.vow(1, 10, 2);
        check.due("counts 8 in week 3", y.run(4, 20), 0);
        check.due("counts 10 in week 4", y.run(5, 20), 1);
    }

    /** INCHES or more, of what it counts for. */
    private static void justEnough() {
        int[] counts = {50, 100, 50, 100, 40, 50};
        for (int kind = 0; kind < 6; kind++) {
            for (int more = -1; more <= 1; more++) {
                BeardsAreBonds x = new BeardsAreBonds();
                // week 0: a glued one grows 2, all others nothing
                x.man(kind, 1, kind == 4 ? 48 : 50);
                x.man(0, 0, 0);
                Check.law(x, STILL);
                int inches = counts[kind] + more;
                x.vow(1, inches, 0);
                String call = "kind " + kind + ", " + inches + " of " + counts[kind];
                check.due(call + ": paid", x.run(1, 20) == 1 ? 1 : 0, more <= 0 ? 1 : 0);
                check.due(call + ": inches paid", x.run(1, 3), more <= 0 ? inches : 0);
                boolean shorn = more > 0 && x.told(0, 7) == 0;
                check.due(call + ": shorn", x.run(1, 0), shorn ? 1 : 0);
                check.due(call + ": left", x.run(1, 10), shorn ? 0 : more > 0 ? 50 : Math.max(0, 50 - inches));
            }
        }
    }

    /** BEARD is INCHES and trims less, 0 at least. */
    private static void nothingLeft() {
        int[][] rows = {{10, 8, 0, 2}, {10, 8, 1, 1}, {10, 8, 2, 0}, {10, 8, 3, 0}, {10, 10, 0, 0}, {10, 10, 99, 0},
            {999, 200, 99, 700}, {1, 1, 0, 0}};
        for (int[] row : rows) {
            BeardsAreBonds x = men("grows 0;trims " + row[2] + ";shames 0;", row[0], 0);
            x.vow(1, row[1], 0);
            String call = row[0] + " less " + row[1] + " and " + row[2];
            check.due(call, x.run(1, 10), row[3]);
            check.due(call + ": paid", x.run(1, 3), row[1]);
            Check.sheet(x, 0, 2, row[1], 0, 1, 0);
            check.due(call + ": take one more", x.take(0, 0, 0), row[3] >= 1 ? 3 : 1);
        }
    }

    /** By numbers: the lower one is paid, the higher one isn't; trims in between. */
    private static void byNumbers() {
        BeardsAreBonds x = men("grows 0;trims 1;shames 0;", 30, 0);
        x.vow(1, 20, 0);
        x.vow(1, 9, 0);
        check.due("20 and 1, 9: both", x.run(1, 21), 1);
        x.set(0, 0, 29);
        check.due("the first one", x.run(1, 20), 1);
        check.due("the second one", x.run(1, 21), 2);
        check.due("inches", x.run(1, 3), 20);
        x.set(0, 0, 19);
        check.due("not the first one", x.run(1, 20), 2);
        check.due("nor the second one", x.run(1, 21), 2);
        check.due("no inches", x.run(1, 3), 0);
    }

    /** All his VOWS that STAND are BROKEN: those ahead by number, not yet due, plaited; not the paid, not those to him. */
    private static void allHisVows() {
        BeardsAreBonds x = men(STILL, 10, 10, 0);
        x.vow(1, 3, 900);
        x.vow(1, 5, 0);
        x.vow(2, 200, 0);
        x.vow(1, 1, 0);
        x.vow(1, 1, 50);
        x.vow(2, 1, 60);
        x.vow(10, 1, 70);
        x.plaits(4, 5);
        check.due("live", x.live(), 1);
        int[] states = {2, 1, 2, 2, 2, 2, 0};
        for (int v = 0; v < states.length; v++) {
            check.due("vow " + v, x.bond(v, 5), states[v]);
        }
        check.due("plaited yet", x.bond(4, 4), 5);
        check.due("beard", x.told(0, 2), 0);
        check.due("owed", x.told(0, 8), 0);
    }

    /** shames of him are added as he is then: grown, trimmed, with what he owes yet. */
    private static void shamesAsHeIs() {
        BeardsAreBonds x = men("grows 4;trims 1;shames beard;", 10, 0);
        x.vow(1, 5, 0);
        x.vow(1, 9, 0);
        check.due("10 and 4 less 6", x.run(1, 4), 8);
        BeardsAreBonds y = men("grows 4;trims 1;shames owed;", 10, 0);
        y.vow(1, 5, 0);
        y.vow(1, 9, 0);
        y.vow(1, 7, 99);
        check.due("9 and 7", y.run(1, 4), 16);
        BeardsAreBonds z = men("grows 0;trims 0;shames 10*week+1;", 0, 0, 0);
        z.vow(1, 1, 1);
        z.vow(12, 1, 3);
        check.due("of none", z.run(1, 4), 0);
        check.due("of week 1", z.run(2, 4), 11);
        check.due("of weeks 1 and 3", z.run(60, 4), 42);
        BeardsAreBonds a = men("grows 0;trims 0;shames 150;", 0, 0, 0);
        a.vow(1, 1, 0);
        a.vow(12, 1, 0);
        a.vow(20, 1, 0);
        check.due("99 each", a.run(1, 4), 297);
    }

    /** A later week than that in which it matures and GRACE: what it was plaited with has been cleared. */
    private static void laterThanGrace() {
        for (int week = 1; week <= 6; week++) {
            for (int grace = 0; grace <= 1; grace++) {
                BeardsAreBonds x = new BeardsAreBonds();
                x.man(grace == 0 ? 0 : 2, 9, 0);
                x.man(0, 0, 0);
                Check.law(x, STILL);
                x.vow(1, 10, 40);
                x.vow(1, 50, 1);
                check.due("plaited: matures", x.plaits(0, 1), 40);
                for (int w = 0; w < week; w++) {
                    check.due("plaited: nobody is shorn", x.live(), 0);
                }
                x.vow(10, 10, 40);
                check.due("clear", x.clear(), 20);
                check.due("with none: matures", x.bond(1, 6), 1);
                boolean late = week >= 1 + grace;
                String call = "grace " + grace + ", week " + week;
                check.due(call + ": shorn", x.run(1, 0), late ? 1 : 0);
                check.due(call + ": its state", x.run(1, 21), late ? 2 : 0);
                x.set(0, 0, 49);
                check.due(call + ": one inch less", x.run(1, 21), late ? 2 : 0);
                // who can pay, pays: however late it is
                x.set(0, 0, 50);
                check.due(call + ": just enough", x.run(1, 21), 1);
                check.due(call + ": live", x.live(), 0);
                check.due(call + ": paid", x.bond(1, 5), 1);
            }
        }
    }

    /** Who is SHORN doesn't grow, has no vows that stand, may not vow, may be vowed to. */
    private static void noWeekForShorn() {
        BeardsAreBonds x = men("grows 5;trims 0;shames 7;", 0, 0);
        x.vow(1, 200, 0);
        x.live();
        check.due("beard", x.told(0, 2), 0);
        x.live();
        check.due("beard, a week on", x.told(0, 2), 0);
        check.due("run: nobody else", x.run(60, 0), 0);
        check.due("run: no shames", x.run(60, 4), 0);
        check.due("run: beard", x.run(60, 10), 0);
        check.due("vow: his", x.vow(1, 1, 9), -3);
        check.due("vow: to him", x.vow(10, 1, 9), 1);
        x.set(0, 0, 999);
        check.due("vow: his, with a beard", x.vow(1, 1, 9), -3);
        check.due("he is shorn yet", x.told(0, 5), 1);
    }

    /** Who is shorn first: by vows' numbers, not by men's. */
    private static void twoInAWeek() {
        BeardsAreBonds x = men(STILL, 0, 0, 0);
        x.vow(20, 1, 3);
        x.vow(10, 1, 2);
        x.vow(1, 1, 2);
        check.due("nobody yet", x.run(2, 1), -1);
        check.due("nobody yet", x.run(2, 2), -1);
        check.due("who first", x.run(3, 1), 1);
        check.due("when", x.run(3, 2), 2);
        check.due("two", x.run(3, 0), 2);
        check.due("three", x.run(4, 0), 3);
        check.due("who first, still", x.run(60, 1), 1);
        check.due("when, still", x.run(60, 2), 2);
        x.live();
        x.live();
        check.due("live: two", x.live(), 2);
        check.due("live: one", x.live(), 1);
        check.due("live: none", x.live(), 0);
    }

    /** n is 0 to 60: the last of sixty weeks is week 59 from now. */
    private static void lastOfSixty() {
        BeardsAreBonds x = men("grows 1;trims 0;shames 0;", 0, 0);
        x.live();
        x.vow(1, 200, 60);
        x.vow(10, 200, 61);
        check.due("59 weeks", x.run(59, 0), 0);
        check.due("60 weeks", x.run(60, 0), 1);
        check.due("in the last of them", x.run(60, 2), 59);
        check.due("vow 1 stands", x.run(60, 21), 0);
        check.due("no week", x.run(0, 0), 0);
        check.due("no week: nobody", x.run(0, 1), -1);
        check.due("no week: never", x.run(0, 2), -1);
        check.due("no week: beard", x.run(0, 10), 1);
        check.due("no week: vow", x.run(0, 20), 0);
        check.due("ripe: in the last of 60", x.ripe(0, 61), 59);
        check.due("ripe: behind them", x.ripe(0, 62), -1);
        check.due("soonest: in the last of 60", x.soonest(0, 61), 59);
        check.due("soonest: behind them", x.soonest(0, 62), -1);
        check.due("ripe: in the first", x.ripe(0, 2), 0);
        check.due("ripe: in the second", x.ripe(0, 3), 1);
        check.due("ripe: 0", x.ripe(0, 0), 0);
        x.set(0, 0, 200);
        check.due("soonest: 200", x.soonest(0, 200), 0);
        BeardsAreBonds y = new BeardsAreBonds();
        y.man(1, 0, 999);
        check.due("ripe: 1998", y.ripe(0, 1998), 0);
        check.due("ripe: 1999", y.ripe(0, 1999), -7);
    }

    /** THE WEEK is 999 at most. */
    private static void weekNineHundred() {
        BeardsAreBonds x = men(STILL, 0, 0);
        for (int w = 0; w < 998; w++) {
            x.live();
        }
        check.due("998", x.count(2), 998);
        check.due("vow: due 998", x.vow(1, 1, 998), 0);
        check.due("live", x.live(), 1);
        check.due("999", x.count(2), 999);
        check.due("vow: due 998 is ahead", x.vow(10, 1, 998), -3);
        check.due("vow: due 999", x.vow(10, 1, 999), 1);
        check.due("live: FULL", x.live(), -4);
        check.due("999 still", x.count(2), 999);
        check.due("it stands still", x.bond(1, 5), 0);
    }
}
