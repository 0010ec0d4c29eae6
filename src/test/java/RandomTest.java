import java.util.Random;

/** Random runs of 512 calls, the class held against the model, call by call; seeded, so always the same. */
public final class RandomTest {
    private static final Check check = new Check("RandomTest");
    private static final String[] EXPRESSIONS = {"4", "oil", "2+oil", "week", "more*2", "owed", "rank+1", "beard",
        "99-beard", "5-oil", "(week<5)*9", "not beard", "1+(owed<40)*5", "more or oil", "oil and rank",
        "-(3-oil)*2", "9*(week=3 or not week<6)", "beard-owed", "0", "owed*2-beard", "week*week-7", "1<2<3",
        "((((((1))))))", "not not not not not not 1", "12345", "x", "3+", "100", "oil*oil*oil"};
    private static final int[] ODD = {-1, 0, 1, 9, 10, 41, 60, 61, 200, 999, 1000, 100000,
        Integer.MAX_VALUE, Integer.MIN_VALUE};

    private static Random dice;
    private static BeardsAreBonds x;
    private static Model y;

    public static void main(String[] args) {
        int runs = args.length > 1 ? Integer.parseInt(args[1]) : 40;
        for (int r = 0; r < runs; r++) {
            dice = new Random(r);
            x = new BeardsAreBonds();
            y = new Model();
            for (int calls = 0; calls < 480;) {
                calls += next(r);
            }
        }
        check.end();
    }

    /** A number of 0 to most, now and then another one. */
    private static int n(int most) {
        return dice.nextInt(40) == 0 ? ODD[dice.nextInt(ODD.length)] : dice.nextInt(most + 1);
    }

    private static int m() {
        return n(Math.max(0, y.count(0) - (dice.nextInt(20) == 0 ? 0 : 1)));
    }

    private static int v() {
        return n(Math.max(0, y.count(1) - (dice.nextInt(20) == 0 ? 0 : 1)));
    }

    private static int due() {
        return y.count(2) + n(dice.nextInt(3) == 0 ? 25 : 6) - (dice.nextInt(15) == 0 ? 1 : 0);
    }

    private static void due(int r, String call, long got, long want) {
        check.due("run " + r + ", " + call, got, want);
    }

    private static int next(int r) {
        switch (dice.nextInt(12)) {
            case 0: return people(r);
            case 1: return bonds(r);
            case 2: return law(r);
            case 3: return told(r);
            case 4: return weeks(r);
            case 5: return offers(r);
            case 6: return rings(r);
            case 7: return clippings(r);
            case 8: return clippings(r);
            case 9: return lots(r);
            case 10: return host(r);
            default: return copies(r);
        }
    }

    private static int people(int r) {
        int a = n(5), b = n(9), c = n(dice.nextBoolean() ? 30 : 999);
        due(r, "man", x.man(a, b, c), y.man(a, b, c));
        int m = m(), what = n(2), v = n(what == 0 ? dice.nextBoolean() ? 40 : 999 : 9);
        due(r, "set", x.set(m, what, v), y.set(m, what, v));
        return 2;
    }

    private static int bonds(int r) {
        for (int k = 0; k < 2; k++) {
            int fromTo = 10 * m() + m(), much = n(dice.nextBoolean() ? 40 : 200), at = due();
            due(r, "vow", x.vow(fromTo, much, at), y.vow(fromTo, much, at));
        }
        int a = v(), b = v(), m = m();
        if (dice.nextBoolean()) {
            due(r, "plaits", x.plaits(a, b), y.plaits(a, b));
        } else {
            due(r, "pass", x.pass(b, m), y.pass(b, m));
        }
        return 3;
    }

    private static String expression() {
        return EXPRESSIONS[dice.nextInt(EXPRESSIONS.length - (dice.nextInt(4) == 0 ? 0 : 8))];
    }

    private static int law(int r) {
        String text = "grows " + expression() + ";trims " + expression() + " ;\nshames " + expression() + ";";
        if (dice.nextInt(6) == 0) {
            int p = dice.nextInt(text.length());
            text = text.substring(0, p) + "();+-*<=? 7za".charAt(dice.nextInt(13)) + text.substring(p + dice.nextInt(2));
        }
        int calls = 0;
        for (int i = 0; i < text.length(); i += 5) {
            int[] b = new int[5];
            int n = Math.min(5, text.length() - i);
            for (int k = 0; k < n; k++) {
                b[k] = text.charAt(i + k);
            }
            due(r, "feed", x.feed(n, b[0], b[1], b[2], b[3], b[4]), y.feed(n, b[0], b[1], b[2], b[3], b[4]));
            calls++;
        }
        due(r, "text of " + text, x.text(), y.text());
        int t = n(Math.max(0, y.count(3) - 1));
        due(r, "force", x.force(t), y.force(t));
        int part = n(2), m = m(), at = n(999);
        due(r, "asks", x.asks(part, m, at), y.asks(part, m, at));
        return calls + 3;
    }

    private static int told(int r) {
        int m = m(), v = v(), a = n(8), b = n(6), c = n(5);
        due(r, "told " + a, x.told(m, a), y.told(m, a));
        due(r, "bond " + b, x.bond(v, b), y.bond(v, b));
        due(r, "count " + c, x.count(c), y.count(c));
        return 3;
    }

    private static int weeks(int r) {
        int n = n(60), what = n(4), m = m(), much = n(dice.nextBoolean() ? 250 : 1998);
        due(r, "run " + what, x.run(n, what), y.run(n, what));
        int other = dice.nextBoolean() ? 10 + m() : 20 + v();
        due(r, "run " + other, x.run(n, other), y.run(n, other));
        due(r, "ripe", x.ripe(m, much), y.ripe(m, much));
        due(r, "soonest", x.soonest(m, much), y.soonest(m, much));
        if (dice.nextInt(3) == 0) {
            due(r, "live", x.live(), y.live());
        }
        return 5;
    }

    private static int offers(int r) {
        int s = dice.nextInt(4), k = dice.nextInt(5), size = dice.nextInt(15) == 0 ? n(14) : 2 * k, sort = 1 + dice.nextInt(2);
        due(r, "sheet", x.sheet(s, sort, size), y.sheet(s, sort, size));
        for (int i = 0; i < size && i < 12; i++) {
            int v = i % 2 == 1 ? n(dice.nextBoolean() ? 8 : 59) : 1 + n(dice.nextBoolean() ? 30 : 199);
            due(r, "cell", x.cell(s, i, v), y.cell(s, i, v));
        }
        int m = m();
        due(r, "take 0", x.take(s, m, 0), y.take(s, m, 0));
        due(r, "take 1", x.take(s, m, 1), y.take(s, m, 1));
        int t = n(3), what = n(1);
        due(r, "take", x.take(t, m, what), y.take(t, m, what));
        return size + 4;
    }

    private static int rings(int r) {
        int what = n(1), m = m(), first = n((1 << y.count(0)) - 1), goal = n(1);
        due(r, "ring", x.ring(what), y.ring(what));
        due(r, "net", x.net(m), y.net(m));
        due(r, "falls", x.falls(first, what), y.falls(first, what));
        due(r, "pillar", x.pillar(what), y.pillar(what));
        if (y.count(0) < 5 || dice.nextInt(20) == 0) {
            due(r, "day", x.day(goal, what), y.day(goal, what));
        }
        if (dice.nextInt(3) == 0) {
            due(r, "clear", x.clear(), y.clear());
        }
        return 6;
    }

    private static int clippings(int r) {
        int s = n(3), m = m(), n = dice.nextInt(3) == 0 ? n(40) : n(5), other = m(), sort = n(2);
        due(r, "film", x.film(s, m, n), y.film(s, m, n));
        if (dice.nextInt(4) == 0) {
            int i = n(5), v = n(300);
            due(r, "cell", x.cell(s, i, v), y.cell(s, i, v));
        }
        due(r, "judge", x.judge(s, other), y.judge(s, other));
        due(r, "kinds", x.kinds(s, other, sort), y.kinds(s, other, sort));
        due(r, "since", x.since(s, other), y.since(s, other));
        due(r, "laws", x.laws(s, m), y.laws(s, m));
        due(r, "whose", x.whose(s), y.whose(s));
        return 7;
    }

    private static int lots(int r) {
        int seed = n(99999), n = n(60), seeds = 1 + n(19), what = n(2), part = n(1);
        due(r, "drawn", x.drawn(seed, n, what), y.drawn(seed, n, what));
        int few = n(10);
        due(r, "odds", x.odds(seed, seeds, few, part), y.odds(seed, seeds, few, part));
        if (dice.nextInt(5) == 0) {
            due(r, "image", x.image(), y.image());
        }
        if (dice.nextInt(5) == 0) {
            due(r, "back", x.back(), y.back());
        }
        return 4;
    }

    private static int host(int r) {
        int s = n(3), sort = n(3) - 1, n = n(40), at = n(4), k = n(3), asked = n(2);
        due(r, "sheet", x.sheet(s, sort, n), y.sheet(s, sort, n));
        for (int i = 0; i < 6; i++) {
            int p = n(5), v = dice.nextInt(4) == 0 ? dice.nextInt() : n(9);
            due(r, "cell", x.cell(s, p, v), y.cell(s, p, v));
        }
        if (dice.nextBoolean()) {
            due(r, "menBy", x.menBy(s, asked, at, k), y.menBy(s, asked, at, k));
        }
        int i = n(13), kind = n(6);
        due(r, "taken", x.taken(i, kind), y.taken(i, kind));
        return 9;
    }

    private static int copies(int r) {
        int s = n(3), i = n(5), other = n(3), j = n(5), n = n(6);
        due(r, "copy", x.copy(s, i, other, j, n), y.copy(s, i, other, j, n));
        int m = m();
        due(r, "judge", x.judge(other, m), y.judge(other, m));
        due(r, "whose", x.whose(other), y.whose(other));
        return 3;
    }
}
