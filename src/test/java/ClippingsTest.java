/** Promises 25 to 30: judge, kinds, since, laws, whose, film. */
public final class ClippingsTest {
    private static final Check check = new Check("ClippingsTest");

    public static void main(String[] args) {
        judging();
        kinds();
        since();
        laws();
        whose();
        filming();
        shornOnes();
        check.end();
    }

    private static void judging() {
        BeardsAreBonds x = new BeardsAreBonds();
        check.due("judge: sheet -1", x.judge(-1, 0), -2);
        check.due("judge: sheet 4", x.judge(4, 0), -2);
        check.due("judge: missing", x.judge(0, 0), -11);
        x.sheet(0, 2, 0);
        check.due("judge: no man", x.judge(0, 0), -5);
        x.man(0, 0, 10);
        x.man(0, 0, 11);
        check.due("judge: man -1", x.judge(0, -1), -5);
        check.due("judge: an empty one", x.judge(0, 0), -1);
        for (int sort = 0; sort < 3; sort++) {
            Check.sheet(x, 0, sort, 14, 18, 22);
            check.due("judge: as it is, sort " + sort, x.judge(0, 0), -1);
            check.due("judge: of the other", x.judge(0, 1), 0);
        }
        x.cell(0, 2, 23);
        check.due("judge: the third", x.judge(0, 0), 2);
        x.cell(0, 0, 10);
        check.due("judge: the first", x.judge(0, 0), 0);
        Check.sheet(x, 0, 2, 14, 18, 22);
        x.vow(1, 5, 0);
        check.due("judge: no vow being paid", x.judge(0, 0), -1);
        x.live();
        check.due("judge: it is", x.judge(0, 0), 0);
        Check.sheet(x, 0, 2, 11, 15);
        check.due("judge: from now", x.judge(0, 0), -1);
    }

    private static void kinds() {
        BeardsAreBonds x = new BeardsAreBonds();
        check.due("kinds: sheet 4", x.kinds(4, 0, 0), -2);
        check.due("kinds: missing", x.kinds(0, 0, 0), -11);
        x.sheet(0, 1, 0);
        check.due("kinds: no man", x.kinds(0, 0, 9), -5);
        x.man(0, 3, 10);
        check.due("kinds: sort -1", x.kinds(0, 0, -1), -7);
        check.due("kinds: sort 3", x.kinds(0, 0, 3), -7);
        check.due("all kinds", x.kinds(0, 0, 0), 63);
        check.due("all more", x.kinds(0, 0, 1), 1023);
        check.due("all oil", x.kinds(0, 0, 2), 1023);
        // more 3: man 14, grey 12, young 10, hermit 13, glued 12, wintry 11
        int[] want = {14, 12, 10, 13, 12, 11};
        for (int v = 10; v < 15; v++) {
            Check.sheet(x, 0, 1, v);
            int bits = 0;
            for (int kind = 0; kind < 6; kind++) {
                bits |= want[kind] == v ? 1 << kind : 0;
            }
            check.due("kinds of " + v, x.kinds(0, 0, 0), bits);
        }
        Check.sheet(x, 0, 1, 14);
        check.due("more does not matter", x.kinds(0, 0, 1), 1023);
        check.due("oil 0", x.kinds(0, 0, 2), 1);
        Check.sheet(x, 0, 1, 23, 36);
        check.due("oil 9", x.kinds(0, 0, 2), 512);
        check.due("his oil stays", x.told(0, 3), 0);
        BeardsAreBonds y = new BeardsAreBonds();
        y.man(3, 8, 0);
        Check.sheet(y, 0, 1, 3, 6);
        // half of 4 and a third of more: 1
        check.due("more 3 to 5", y.kinds(0, 0, 1), 8 | 16 | 32);
        check.due("his more stays", y.told(0, 1), 8);
        Check.sheet(y, 0, 1, 4, 8);
        check.due("hermit, or a man", y.kinds(0, 0, 0), 8 | 1);
        check.due("his kind stays", y.told(0, 0), 3);
    }

    private static void since() {
        BeardsAreBonds x = new BeardsAreBonds();
        check.due("since: sheet 4", x.since(4, 0), BeardsAreBonds.NO);
        check.due("since: missing", x.since(0, 0), BeardsAreBonds.NO);
        x.sheet(0, 1, 0);
        check.due("since: no man", x.since(0, 0), BeardsAreBonds.NO);
        x.man(5, 9, 0);
        check.due("all weeks", x.since(0, 0), (1L << 52) - 1);
        Check.sheet(x, 0, 1, 8);
        long summer = 0;
        for (int week = 10; week <= 42; week++) {
            summer |= 1L << week;
        }
        check.due("summer", x.since(0, 0), summer);
        Check.sheet(x, 0, 1, 8, 9);
        check.due("its last week", x.since(0, 0), 1L << 42);
        Check.sheet(x, 0, 1, 1, 9);
        check.due("winter's last week", x.since(0, 0), 1L << 9);
        Check.sheet(x, 0, 1, 1, 2, 3);
        x.live();
        long winter = (1L << 52) - 1 & ~summer & ~(1L << 8) & ~(1L << 9);
        x.set(0, 0, 0);
        check.due("winter, on to the next", x.since(0, 0), winter);
        check.due("the week stays", x.count(2), 1);
    }

    private static void laws() {
        BeardsAreBonds x = new BeardsAreBonds();
        check.due("laws: sheet 4", x.laws(4, 0), -2);
        check.due("laws: missing", x.laws(0, 0), -11);
        x.sheet(0, 1, 0);
        check.due("laws: no man", x.laws(0, 0), -5);
        x.man(0, 0, 10);
        check.due("all one", x.laws(0, 0), 1);
        Check.text(x, "grows 5;trims 0;shames 0;");
        Check.text(x, "grows 4;trims 0;shames 0;");
        Check.text(x, "grows 4+(week=1);trims 0;shames 0;");
        check.due("all four", x.laws(0, 0), 15);
        Check.sheet(x, 0, 1, 14);
        check.due("4", x.laws(0, 0), 1 | 4 | 8);
        Check.sheet(x, 0, 1, 14, 19);
        check.due("4, then 5", x.laws(0, 0), 8);
        Check.sheet(x, 0, 1, 15, 20);
        check.due("5", x.laws(0, 0), 2);
        Check.sheet(x, 0, 1, 16);
        check.due("none", x.laws(0, 0), 0);
        check.due("the law stays", x.count(4), 0);
    }

    private static void whose() {
        BeardsAreBonds x = new BeardsAreBonds();
        check.due("whose: sheet -1", x.whose(-1), -2);
        check.due("whose: missing", x.whose(3), -11);
        x.sheet(3, 2, 0);
        check.due("nobody's", x.whose(3), 0);
        x.man(0, 0, 10);
        x.man(1, 0, 12);
        x.man(0, 0, 11);
        x.man(2, 9, 14);
        check.due("all", x.whose(3), 15);
        Check.sheet(x, 3, 2, 14);
        check.due("14", x.whose(3), 1 | 2 | 8);
        Check.sheet(x, 3, 2, 14, 16);
        check.due("14, 16", x.whose(3), 2);
        Check.sheet(x, 3, 2, 14, 16, 19);
        check.due("nobody's", x.whose(3), 0);
    }

    private static void filming() {
        BeardsAreBonds x = new BeardsAreBonds();
        check.due("film: sheet 4", x.film(4, 0, 1), -2);
        check.due("film: no man", x.film(0, 0, 41), -5);
        x.man(0, 0, 10);
        check.due("film: -1", x.film(0, 0, -1), -7);
        check.due("film: 41", x.film(0, 0, 41), -7);
        check.due("missing yet", x.cell(0, 0, 0), -11);
        check.due("film: 40", x.film(0, 0, 40), 40);
        check.due("forty numbers", x.cell(0, 40, 0), -12);
        check.due("judge", x.judge(0, 0), -1);
        x.film(1, 0, 2);
        Check.sheet(x, 2, 1, 0, 0);
        check.due("they are shorts", x.copy(1, 0, 2, 0, 2), 2);
        x.sheet(3, 2, 2);
        check.due("no ints", x.copy(1, 0, 3, 0, 2), -13);
        check.due("film: 3", x.film(0, 0, 3), 3);
        check.due("it has three now", x.cell(0, 3, 0), -12);
        check.due("film: 0", x.film(0, 0, 0), 0);
        check.due("it is empty now", x.cell(0, 0, 0), -12);
        check.due("the week stays", x.count(2), 0);
        check.due("the beard stays", x.told(0, 2), 10);
        Check.law(x, "grows week;trims 0;shames 0;");
        x.live();
        x.live();
        x.film(0, 0, 3);
        // 11, and 2, 3, 4
        x.set(0, 0, 11);
        check.due("behind growing, from now on", x.judge(0, 0), -1);
        Check.sheet(x, 1, 1, 13, 16, 20);
        check.due("as told", x.judge(1, 0), -1);
    }

    private static void shornOnes() {
        BeardsAreBonds x = new BeardsAreBonds();
        x.man(0, 0, 0);
        x.man(0, 0, 0);
        x.vow(1, 200, 0);
        x.live();
        x.set(0, 0, 7);
        Check.sheet(x, 0, 0, 7, 7, 7);
        check.due("he does not grow", x.judge(0, 0), -1);
        check.due("of any kind", x.kinds(0, 0, 0), 63);
        check.due("in any week", x.since(0, 0), (1L << 52) - 1);
        check.due("by any text", x.laws(0, 0), 1);
        check.due("his", x.whose(0), 1);
        x.film(1, 0, 4);
        Check.sheet(x, 2, 1, 7, 7, 7, 7);
        check.due("film", x.judge(1, 0), -1);
    }
}
