/** What depends on the KIND: growing, counting, GRACE, at each edge that the document names. */
public final class KindEdgesTest {
    private static final Check check = new Check("KindEdgesTest");
    private static final int[] GRACE = {0, 0, 1, 4, 1, 0};

    public static void main(String[] args) {
        growing();
        growingByNames();
        longest();
        counting();
        graces();
        paidInGrace();
        youngAndOld();
        summerAndWinter();
        ripeByWeeks();
        check.end();
    }

    /** How much a beard of that kind grows, the text saying so much. */
    private static int growth(int kind, int more, int week, int said) {
        int young = week < 2 * more ? 0 : said + 1;
        switch (kind) {
            case 1: return said / 2;
            case 2: return young;
            case 3: return said / 2 + more / 3;
            case 4: return week % 4 == 3 ? 0 : young + 2;
            case 5: return week % 52 < 10 || week % 52 > 42 ? said / 3 : said + more / 2;
            default: return said;
        }
    }

    private static int counts(int kind, int more, int beard) {
        if (kind == 1 || kind == 3) {
            return 2 * beard;
        }
        return kind == 4 ? beard * (9 - more) / 10 : beard;
    }

    /** Each kind, each MORE, all weeks of two years, what the text says being 0 to 99. */
    private static void growing() {
        int[] said = {0, 1, 2, 3, 4, 5, 98, 99};
        for (int more = 0; more <= 9; more++) {
            for (int k = 0; k < said.length; k++) {
                BeardsAreBonds x = new BeardsAreBonds();
                for (int kind = 0; kind < 6; kind++) {
                    x.man(kind, more, 0);
                }
                Check.law(x, "grows " + said[k] + ";trims 0;shames 0;");
                for (int week = 0; week < 110; week++) {
                    x.live();
                    for (int kind = 0; kind < 6; kind++) {
                        String call = "kind " + kind + ", more " + more + ", week " + week + ", said " + said[k];
                        check.due(call, x.set(kind, 0, 0), growth(kind, more, week, said[k]));
                    }
                }
            }
        }
    }

    /** The text is asked of the week in which he grows, of his beard as it is ahead of it, of what he owes. */
    private static void growingByNames() {
        BeardsAreBonds x = new BeardsAreBonds();
        x.man(0, 0, 3);
        x.man(0, 0, 0);
        x.vow(1, 7, 50);
        Check.law(x, "grows week*10+beard+owed;trims 0;shames 0;");
        check.due("one week", x.run(1, 10), 3 + 3 + 7);
        check.due("two weeks", x.run(2, 10), 13 + 10 + 13 + 7);
        x.live();
        check.due("from week 1 on", x.run(1, 10), 43);
    }

    /** 999 at most. */
    private static void longest() {
        int[][] rows = {{999, 0, 999}, {999, 1, 999}, {998, 0, 998}, {998, 1, 999}, {998, 2, 999}, {900, 99, 999},
            {899, 99, 998}, {901, 99, 999}};
        for (int[] row : rows) {
            BeardsAreBonds x = new BeardsAreBonds();
            x.man(0, 0, row[0]);
            Check.law(x, "grows " + row[1] + ";trims 0;shames 0;");
            String call = row[0] + " and " + row[1];
            check.due("run: " + call, x.run(1, 10), row[2]);
            x.film(0, 0, 1);
            x.live();
            check.due("live: " + call, x.told(0, 2), row[2]);
            x.set(0, 0, row[0]);
            check.due("judge: " + call, x.judge(0, 0), -1);
            check.due("ripe: " + call, x.ripe(0, row[2]), 0);
        }
    }

    private static void counting() {
        for (int kind = 0; kind < 6; kind++) {
            for (int more = 0; more <= 9; more++) {
                BeardsAreBonds x = new BeardsAreBonds();
                x.man(kind, more, 0);
                for (int beard = 0; beard <= 999; beard += beard < 30 || beard > 980 ? 1 : 19) {
                    x.set(0, 0, beard);
                    check.due("counts: kind " + kind + ", more " + more + ", beard " + beard, x.told(0, 6),
                        counts(kind, more, beard));
                }
                check.due("grace: kind " + kind + ", more " + more, x.told(0, 7), GRACE[kind]);
            }
        }
    }

    /** Who can't pay is shorn in the week in which it matures and GRACE, no week sooner. */
    private static void graces() {
        for (int kind = 0; kind < 6; kind++) {
            for (int due = 0; due < 4; due++) {
                BeardsAreBonds x = new BeardsAreBonds();
                x.man(kind, 0, 0);
                x.man(0, 0, 0);
                Check.law(x, "grows 0;trims 0;shames 3;");
                x.vow(1, 200, due);
                int last = due + GRACE[kind];
                String call = "kind " + kind + ", due " + due;
                check.due(call + ": not in its grace", x.run(last, 0), 0);
                check.due(call + ": stands", x.run(last, 20), 0);
                check.due(call + ": shorn behind it", x.run(last + 1, 0), 1);
                check.due(call + ": broken", x.run(last + 1, 20), 2);
                check.due(call + ": in which week", x.run(60, 2), last);
                check.due(call + ": once", x.run(60, 0), 1);
                check.due(call + ": shames, once", x.run(60, 4), 3);
            }
        }
    }

    /** A VOW may be PAID in all weeks of its GRACE, the last one too. */
    private static void paidInGrace() {
        for (int kind = 0; kind < 6; kind++) {
            for (int late = 0; late <= 5; late++) {
                BeardsAreBonds x = new BeardsAreBonds();
                x.man(kind, 0, 0);
                x.man(0, 0, 0);
                Check.law(x, "grows 0;trims 0;shames 0;");
                x.vow(1, 200, 1);
                for (int week = 0; week < 1 + late; week++) {
                    x.live();
                }
                x.set(0, 0, 999);
                x.live();
                boolean inTime = late <= GRACE[kind];
                String call = "kind " + kind + ", " + late + " weeks late";
                check.due(call, x.bond(0, 5), inTime ? 1 : 2);
                check.due(call + ": shorn", x.told(0, 5), inTime ? 0 : 1);
            }
        }
    }

    /** YOUNG: 0, if WEEK is below twice MORE. */
    private static void youngAndOld() {
        for (int more = 0; more <= 9; more++) {
            BeardsAreBonds x = new BeardsAreBonds();
            x.man(2, more, 0);
            x.man(4, more, 0);
            check.due("young: last week of none", x.run(2 * more, 10), 0);
            check.due("young: first week of some", x.run(2 * more + 1, 10), 5);
            int glued = 0;
            for (int week = 0; week < 60; week++) {
                check.due("glued, " + week + " weeks", x.run(week, 11), glued);
                glued += week % 4 == 3 ? 0 : week < 2 * more ? 2 : 7;
            }
        }
    }

    /** WINTRY: the year's weeks below 10 and above 42, of this year and the next. */
    private static void summerAndWinter() {
        BeardsAreBonds x = new BeardsAreBonds();
        x.man(5, 9, 0);
        Check.law(x, "grows 8;trims 0;shames 0;");
        int[] weeks = {0, 1, 8, 9, 10, 11, 41, 42, 43, 44, 50, 51, 52, 53, 60, 61, 62, 63, 93, 94, 95, 96, 103, 104, 113,
            114, 146, 147};
        int[] grows = {2, 2, 2, 2, 12, 12, 12, 12, 2, 2, 2, 2, 2, 2, 2, 2, 12, 12, 12, 12, 2, 2, 2, 2, 2, 12, 12, 2};
        for (int i = 0; i < weeks.length; i++) {
            while (x.count(2) < weeks[i]) {
                x.live();
            }
            x.set(0, 0, 0);
            check.due("week " + weeks[i], x.run(1, 10), grows[i]);
        }
    }

    /** The first of 60 weeks, each growing by the text's and the kind's word of that week. */
    private static void ripeByWeeks() {
        int more = 4;
        for (int kind = 0; kind < 6; kind++) {
            BeardsAreBonds x = new BeardsAreBonds();
            x.man(kind, more, 0);
            Check.law(x, "grows week*(week<30);trims 0;shames 0;");
            for (int now = 0; now < 12; now += 3) {
                int beard = 0;
                int most = -1;
                for (int nth = 0; nth < 60; nth++) {
                    int week = now + nth;
                    beard = Math.min(999, beard + growth(kind, more, week, week < 30 ? week : 0));
                    int counts = counts(kind, more, beard);
                    String call = "kind " + kind + ", in week " + now + ", ripe for " + counts;
                    if (counts > most) {
                        check.due(call, x.ripe(0, counts), nth);
                        check.due(call + ", soonest", x.soonest(0, counts), counts < 1 || counts > 200 ? -7 : nth);
                    }
                    most = Math.max(most, counts);
                }
                check.due("kind " + kind + ", in week " + now + ", never", x.ripe(0, most + 1), -1);
                for (int w = 0; w < 3; w++) {
                    x.live();
                }
                x.set(0, 0, 0);
            }
        }
    }
}
