import java.util.function.Consumer;
import java.util.function.ToLongFunction;

/** Each refusal of each call, of several the first one told; what is refused changes nothing. */
public final class RefusalsTest {
    private static final Check check = new Check("RefusalsTest");
    private static final Consumer<BeardsAreBonds> MID = Worlds.MID;
    private static final Consumer<BeardsAreBonds> FULL = Worlds.FULL;
    private static final Consumer<BeardsAreBonds> NEW = Worlds.NEW;
    private static final int BAD = -2, STATE = -3, NO_ROOM = -4, NO_MAN = -5, NO_VOW = -6, NOT_SO = -7;
    private static final int NOTHING = -11, OUTSIDE = -12, UNLIKE = -13, BELOW_ZERO = -14;
    private static final long NO = BeardsAreBonds.NO;
    private static final int MIN = Integer.MIN_VALUE, MAX = Integer.MAX_VALUE;

    public static void main(String[] args) {
        law();
        men();
        vows();
        plaitsAndPass();
        weeks();
        offers();
        rings();
        clippings();
        since();
        film();
        lots();
        sheets();
        copies();
        menBy();
        taken();
        newObject();
        check.end();
    }

    /** In that world the call is refused so, and all is as it was. */
    private static void refused(Consumer<BeardsAreBonds> world, String call, long want,
            ToLongFunction<BeardsAreBonds> asked) {
        Worlds.due(check, world, call, asked, want, "");
    }

    private static void law() {
        refused(MID, "count(-1)", BAD, x -> x.count(-1));
        refused(MID, "count(6)", BAD, x -> x.count(6));
        refused(MID, "count(MIN)", BAD, x -> x.count(MIN));
        refused(MID, "count(MAX)", BAD, x -> x.count(MAX));
        refused(MID, "feed: n 0", BAD, x -> x.feed(0, 1, 1, 1, 1, 1));
        refused(MID, "feed: n -1", BAD, x -> x.feed(-1, 1, 1, 1, 1, 1));
        refused(MID, "feed: n 6", BAD, x -> x.feed(6, 1, 1, 1, 1, 1));
        refused(MID, "feed: a -1", BAD, x -> x.feed(1, -1, 1, 1, 1, 1));
        refused(MID, "feed: a 256", BAD, x -> x.feed(1, 256, 1, 1, 1, 1));
        refused(MID, "feed: b -1, of one", BAD, x -> x.feed(1, 1, -1, 1, 1, 1));
        refused(MID, "feed: b 256, of one", BAD, x -> x.feed(1, 1, 256, 1, 1, 1));
        refused(MID, "feed: c -1, of two", BAD, x -> x.feed(2, 1, 1, -1, 1, 1));
        refused(MID, "feed: c 256, of two", BAD, x -> x.feed(2, 1, 1, 256, 1, 1));
        refused(MID, "feed: d -1, of three", BAD, x -> x.feed(3, 1, 1, 1, -1, 1));
        refused(MID, "feed: d 256, of three", BAD, x -> x.feed(3, 1, 1, 1, 256, 1));
        refused(MID, "feed: e -1, of four", BAD, x -> x.feed(4, 1, 1, 1, 1, -1));
        refused(MID, "feed: e 256, of five", BAD, x -> x.feed(5, 1, 1, 1, 1, 256));
        refused(FULL, "feed: no room", NO_ROOM, x -> x.feed(1, 1, 1, 1, 1, 1));
        refused(FULL, "feed: no room for five", NO_ROOM, x -> x.feed(5, 1, 1, 1, 1, 1));
        refused(FULL, "feed: BAD n ahead of FULL", BAD, x -> x.feed(6, 1, 1, 1, 1, 1));
        refused(FULL, "feed: BAD byte ahead of FULL", BAD, x -> x.feed(1, 1, 1, 1, 1, 256));
        refused(FULL, "text: FULL ahead of the FAULT, and the tape stays", NO_ROOM, x -> x.text());
        refused(MID, "force(-1)", BAD, x -> x.force(-1));
        refused(MID, "force(2): of two texts", BAD, x -> x.force(2));
        refused(FULL, "force(6)", BAD, x -> x.force(6));
        refused(MID, "asks: part -1", BAD, x -> x.asks(-1, 0, 0));
        refused(MID, "asks: part 3", BAD, x -> x.asks(3, 0, 0));
        refused(MID, "asks: man -1", BAD, x -> x.asks(0, -1, 0));
        refused(MID, "asks: man 5 of five", BAD, x -> x.asks(0, 5, 0));
        refused(MID, "asks: week -1", BAD, x -> x.asks(0, 0, -1));
        refused(MID, "asks: week 1000", BAD, x -> x.asks(0, 0, 1000));
        // a fault empties the tape, and changes nothing else
        Worlds.due(check, MID, "text: a fault", x -> x.text(), -107, "tape = 0, text = -100");
    }

    private static void men() {
        refused(MID, "man: kind -1", BAD, x -> x.man(-1, 0, 0));
        refused(MID, "man: kind 6", BAD, x -> x.man(6, 0, 0));
        refused(MID, "man: more -1", BAD, x -> x.man(0, -1, 0));
        refused(MID, "man: more 10", BAD, x -> x.man(0, 10, 0));
        refused(MID, "man: inches -1", BAD, x -> x.man(0, 0, -1));
        refused(MID, "man: inches 1000", BAD, x -> x.man(0, 0, 1000));
        refused(FULL, "man: FULL", NO_ROOM, x -> x.man(0, 0, 0));
        refused(FULL, "man: BAD kind ahead of FULL", BAD, x -> x.man(6, 0, 0));
        refused(FULL, "man: BAD more ahead of FULL", BAD, x -> x.man(0, 10, 0));
        refused(FULL, "man: BAD inches ahead of FULL", BAD, x -> x.man(0, 0, 1000));
        refused(MID, "set: man -1", NO_MAN, x -> x.set(-1, 0, 0));
        refused(MID, "set: man 5 of five", NO_MAN, x -> x.set(5, 0, 0));
        refused(FULL, "set: man 6", NO_MAN, x -> x.set(6, 0, 0));
        refused(MID, "set: -5 ahead of -7, what", NO_MAN, x -> x.set(5, 3, 0));
        refused(MID, "set: -5 ahead of -7, v", NO_MAN, x -> x.set(5, 1, 10));
        refused(MID, "set: what -1", NOT_SO, x -> x.set(1, -1, 0));
        refused(MID, "set: what 3", NOT_SO, x -> x.set(1, 3, 0));
        refused(MID, "set: beard -1", NOT_SO, x -> x.set(1, 0, -1));
        refused(MID, "set: beard 1000", NOT_SO, x -> x.set(1, 0, 1000));
        refused(MID, "set: beard of a shorn one, 1000", NOT_SO, x -> x.set(0, 0, 1000));
        refused(MID, "set: oil -1", NOT_SO, x -> x.set(1, 1, -1));
        refused(MID, "set: oil 10", NOT_SO, x -> x.set(1, 1, 10));
        refused(MID, "set: rank -1", NOT_SO, x -> x.set(1, 2, -1));
        refused(MID, "set: rank 10", NOT_SO, x -> x.set(1, 2, 10));
        refused(MID, "told: man -1", NO_MAN, x -> x.told(-1, 0));
        refused(MID, "told: man 5 of five", NO_MAN, x -> x.told(5, 0));
        refused(MID, "told: -5 ahead of -7", NO_MAN, x -> x.told(5, 9));
        refused(MID, "told: what -1", NOT_SO, x -> x.told(0, -1));
        refused(MID, "told: what 9", NOT_SO, x -> x.told(0, 9));
    }

    private static void vows() {
        refused(MID, "vow: from none", BAD, x -> x.vow(51, 1, 9));
        refused(MID, "vow: to none", BAD, x -> x.vow(15, 1, 9));
        refused(MID, "vow: to himself", BAD, x -> x.vow(11, 1, 9));
        refused(MID, "vow: fromTo -1", BAD, x -> x.vow(-1, 1, 9));
        refused(MID, "vow: fromTo -12", BAD, x -> x.vow(-12, 1, 9));
        refused(MID, "vow: fromTo 112", BAD, x -> x.vow(112, 1, 9));
        refused(MID, "vow: 0 inches", BAD, x -> x.vow(12, 0, 9));
        refused(MID, "vow: 201 inches", BAD, x -> x.vow(12, 201, 9));
        refused(MID, "vow: due -1", BAD, x -> x.vow(12, 1, -1));
        refused(MID, "vow: due 1000", BAD, x -> x.vow(12, 1, 1000));
        refused(MID, "vow: from a shorn one", STATE, x -> x.vow(1, 1, 9));
        refused(MID, "vow: due ahead of the week", STATE, x -> x.vow(12, 1, 1));
        refused(MID, "vow: BAD to ahead of STATE, shorn", BAD, x -> x.vow(5, 1, 9));
        refused(MID, "vow: a shorn one to himself", BAD, x -> x.vow(0, 1, 9));
        refused(MID, "vow: BAD inches ahead of STATE, shorn", BAD, x -> x.vow(1, 0, 9));
        refused(MID, "vow: BAD inches ahead of STATE, due", BAD, x -> x.vow(12, 201, 1));
        refused(MID, "vow: BAD due ahead of STATE, shorn", BAD, x -> x.vow(1, 1, 1000));
        refused(FULL, "vow: FULL", NO_ROOM, x -> x.vow(12, 1, 9));
        refused(FULL, "vow: STATE ahead of FULL, shorn", STATE, x -> x.vow(1, 1, 9));
        refused(FULL, "vow: STATE ahead of FULL, due", STATE, x -> x.vow(12, 1, 0));
        refused(FULL, "vow: BAD ahead of FULL, himself", BAD, x -> x.vow(11, 1, 9));
        refused(FULL, "vow: BAD ahead of FULL, inches", BAD, x -> x.vow(12, 0, 9));
        refused(FULL, "vow: BAD ahead of STATE and FULL", BAD, x -> x.vow(1, 0, 0));
        refused(MID, "bond: vow -1", NO_VOW, x -> x.bond(-1, 0));
        refused(MID, "bond: vow 6 of six", NO_VOW, x -> x.bond(6, 0));
        refused(FULL, "bond: vow 8", NO_VOW, x -> x.bond(8, 0));
        refused(MID, "bond: -6 ahead of -7", NO_VOW, x -> x.bond(6, 7));
        refused(MID, "bond: what -1", NOT_SO, x -> x.bond(0, -1));
        refused(MID, "bond: what 7", NOT_SO, x -> x.bond(0, 7));
    }

    private static void plaitsAndPass() {
        refused(MID, "plaits: vow -1", NO_VOW, x -> x.plaits(-1, 2));
        refused(MID, "plaits: with vow -1", NO_VOW, x -> x.plaits(2, -1));
        refused(MID, "plaits: vow 6 of six", NO_VOW, x -> x.plaits(6, 2));
        refused(MID, "plaits: with vow 6 of six", NO_VOW, x -> x.plaits(2, 6));
        refused(MID, "plaits: one and the same", NO_VOW, x -> x.plaits(2, 2));
        refused(MID, "plaits: -6 ahead of STATE, one and the same", NO_VOW, x -> x.plaits(0, 0));
        refused(MID, "plaits: -6 ahead of STATE, none", NO_VOW, x -> x.plaits(0, 6));
        refused(MID, "plaits: broken", STATE, x -> x.plaits(0, 2));
        refused(MID, "plaits: with a paid one of his", STATE, x -> x.plaits(5, 1));
        refused(MID, "plaits: a paid one of his", STATE, x -> x.plaits(1, 5));
        refused(MID, "plaits: of unlike men", STATE, x -> x.plaits(2, 5));
        refused(MID, "plaits: those that are", STATE, x -> x.plaits(3, 4));
        refused(MID, "plaits: those that are, turned", STATE, x -> x.plaits(4, 3));
        Consumer<BeardsAreBonds> third = x -> {
            Worlds.MID.accept(x);
            x.vow(31, 4, 9);
        };
        refused(third, "plaits: one that is, with a third", STATE, x -> x.plaits(3, 6));
        refused(third, "plaits: a third with one that is", STATE, x -> x.plaits(6, 4));
        refused(MID, "pass: vow -1", NO_VOW, x -> x.pass(-1, 1));
        refused(MID, "pass: vow 6 of six", NO_VOW, x -> x.pass(6, 1));
        refused(MID, "pass: -6 ahead of -5", NO_VOW, x -> x.pass(6, 9));
        refused(MID, "pass: man -1", NO_MAN, x -> x.pass(2, -1));
        refused(MID, "pass: man 5 of five", NO_MAN, x -> x.pass(2, 5));
        refused(MID, "pass: from whom it is", NO_MAN, x -> x.pass(2, 2));
        refused(MID, "pass: -5 ahead of STATE, no man", NO_MAN, x -> x.pass(0, 5));
        refused(MID, "pass: -5 ahead of STATE, from whom it is", NO_MAN, x -> x.pass(1, 1));
        refused(MID, "pass: broken", STATE, x -> x.pass(0, 2));
        refused(MID, "pass: paid", STATE, x -> x.pass(1, 3));
        Consumer<BeardsAreBonds> cleared = x -> {
            Worlds.MID.accept(x);
            x.clear();
        };
        check.due("vow 2 is cleared", Worlds.make(cleared).bond(5, 5), 3);
        refused(cleared, "pass: cleared", STATE, x -> x.pass(5, 2));
    }

    private static void weeks() {
        refused(MID, "run: n -1", BAD, x -> x.run(-1, 0));
        refused(MID, "run: n 61", BAD, x -> x.run(61, 0));
        refused(MID, "run: BAD ahead of -7", BAD, x -> x.run(61, 5));
        refused(MID, "run: what -1", NOT_SO, x -> x.run(1, -1));
        for (int what = 5; what < 10; what++) {
            int w = what;
            refused(MID, "run: what " + w, NOT_SO, x -> x.run(1, w));
        }
        for (int what = 15; what < 20; what++) {
            int w = what;
            refused(MID, "run: no such man, " + w, NOT_SO, x -> x.run(1, w));
        }
        refused(FULL, "run: no seventh man", NOT_SO, x -> x.run(1, 16));
        refused(MID, "run: no such vow, 26", NOT_SO, x -> x.run(1, 26));
        refused(FULL, "run: no ninth vow", NOT_SO, x -> x.run(1, 28));
        refused(MID, "ripe: man -1", NO_MAN, x -> x.ripe(-1, 1));
        refused(MID, "ripe: man 5 of five", NO_MAN, x -> x.ripe(5, 1));
        refused(MID, "ripe: -5 ahead of -7", NO_MAN, x -> x.ripe(5, 1999));
        refused(MID, "ripe: much -1", NOT_SO, x -> x.ripe(1, -1));
        refused(MID, "ripe: much 1999", NOT_SO, x -> x.ripe(1, 1999));
        refused(MID, "soonest: man -1", NO_MAN, x -> x.soonest(-1, 1));
        refused(MID, "soonest: man 5 of five", NO_MAN, x -> x.soonest(5, 1));
        refused(MID, "soonest: -5 ahead of -7", NO_MAN, x -> x.soonest(5, 0));
        refused(MID, "soonest: much 0", NOT_SO, x -> x.soonest(1, 0));
        refused(MID, "soonest: much 201", NOT_SO, x -> x.soonest(1, 201));
        refused(MID, "soonest: -7 ahead of -1, shorn", NOT_SO, x -> x.soonest(0, 0));
        refused(MID, "soonest: shorn", -1, x -> x.soonest(0, 1));
        Consumer<BeardsAreBonds> last = x -> {
            Worlds.MID.accept(x);
            for (int w = 2; w < 999; w++) {
                x.live();
            }
        };
        refused(last, "live: FULL", NO_ROOM, x -> x.live());
    }

    private static void offers() {
        refused(MID, "take: sheet -1", BAD, x -> x.take(-1, 1, 0));
        refused(MID, "take: sheet 4", BAD, x -> x.take(4, 1, 0));
        refused(MID, "take: BAD sheet ahead of -5, -7", BAD, x -> x.take(4, 5, 2));
        refused(MID, "take: missing", NOTHING, x -> x.take(3, 1, 0));
        refused(MID, "take: -11 ahead of -5, -7", NOTHING, x -> x.take(3, 5, 2));
        refused(MID, "take: an odd size", BAD, x -> x.take(0, 1, 0));
        refused(MID, "take: an odd size ahead of -5, -7", BAD, x -> x.take(0, 5, 2));
        refused(FULL, "take: 40 numbers", BAD, x -> x.take(0, 1, 0));
        refused(MID, "take: a number", BAD, x -> x.take(2, 1, 0));
        refused(MID, "take: a number ahead of -5, -7", BAD, x -> x.take(2, 5, 2));
        refused(MID, "take: a number ahead of the shorn one's 0", BAD, x -> x.take(2, 0, 0));
        refused(MID, "take: man -1", NO_MAN, x -> x.take(1, -1, 0));
        refused(MID, "take: man 5 of five", NO_MAN, x -> x.take(1, 5, 0));
        refused(MID, "take: -5 ahead of -7", NO_MAN, x -> x.take(1, 5, 2));
        refused(MID, "take: what -1", NOT_SO, x -> x.take(1, 1, -1));
        refused(MID, "take: what 2", NOT_SO, x -> x.take(1, 1, 2));
        refused(MID, "take: -7 ahead of the shorn one's 0", NOT_SO, x -> x.take(1, 0, 2));
    }

    private static void rings() {
        refused(MID, "ring(-1)", BAD, x -> x.ring(-1));
        refused(MID, "ring(2)", BAD, x -> x.ring(2));
        refused(MID, "net(-1)", -1000005, x -> x.net(-1));
        refused(MID, "net(5) of five", -1000005, x -> x.net(5));
        refused(MID, "falls(-1, 0)", BAD, x -> x.falls(-1, 0));
        refused(MID, "falls(32, 0) of five", BAD, x -> x.falls(32, 0));
        refused(FULL, "falls(64, 0) of six", BAD, x -> x.falls(64, 0));
        refused(MID, "falls(MIN, 0)", BAD, x -> x.falls(MIN, 0));
        refused(MID, "falls(1, -1)", BAD, x -> x.falls(1, -1));
        refused(MID, "falls(1, 2)", BAD, x -> x.falls(1, 2));
        refused(MID, "pillar(-1)", BAD, x -> x.pillar(-1));
        refused(MID, "pillar(2)", BAD, x -> x.pillar(2));
        refused(MID, "day(-1, 0)", BAD, x -> x.day(-1, 0));
        refused(MID, "day(2, 0)", BAD, x -> x.day(2, 0));
        refused(MID, "day(0, -1)", BAD, x -> x.day(0, -1));
        refused(MID, "day(0, 2)", BAD, x -> x.day(0, 2));
    }

    private static void clippings() {
        refused(MID, "judge: sheet -1", BAD, x -> x.judge(-1, 1));
        refused(MID, "judge: sheet 4", BAD, x -> x.judge(4, 1));
        refused(MID, "judge: BAD ahead of -5", BAD, x -> x.judge(4, 5));
        refused(MID, "judge: missing", NOTHING, x -> x.judge(3, 1));
        refused(MID, "judge: -11 ahead of -5", NOTHING, x -> x.judge(3, 5));
        refused(MID, "judge: man -1", NO_MAN, x -> x.judge(0, -1));
        refused(MID, "judge: man 5 of five", NO_MAN, x -> x.judge(0, 5));
        refused(MID, "kinds: sheet -1", BAD, x -> x.kinds(-1, 1, 0));
        refused(MID, "kinds: sheet 4", BAD, x -> x.kinds(4, 1, 0));
        refused(MID, "kinds: BAD ahead of -5, -7", BAD, x -> x.kinds(4, 5, 3));
        refused(MID, "kinds: missing", NOTHING, x -> x.kinds(3, 1, 0));
        refused(MID, "kinds: -11 ahead of -5, -7", NOTHING, x -> x.kinds(3, 5, 3));
        refused(MID, "kinds: man -1", NO_MAN, x -> x.kinds(0, -1, 0));
        refused(MID, "kinds: man 5 of five", NO_MAN, x -> x.kinds(0, 5, 0));
        refused(MID, "kinds: -5 ahead of -7", NO_MAN, x -> x.kinds(0, 5, 3));
        refused(MID, "kinds: sort -1", NOT_SO, x -> x.kinds(0, 1, -1));
        refused(MID, "kinds: sort 3", NOT_SO, x -> x.kinds(0, 1, 3));
        refused(MID, "laws: sheet -1", BAD, x -> x.laws(-1, 1));
        refused(MID, "laws: sheet 4", BAD, x -> x.laws(4, 1));
        refused(MID, "laws: BAD ahead of -5", BAD, x -> x.laws(4, 5));
        refused(MID, "laws: missing", NOTHING, x -> x.laws(3, 1));
        refused(MID, "laws: -11 ahead of -5", NOTHING, x -> x.laws(3, 5));
        refused(MID, "laws: man -1", NO_MAN, x -> x.laws(0, -1));
        refused(MID, "laws: man 5 of five", NO_MAN, x -> x.laws(0, 5));
        refused(MID, "whose: sheet -1", BAD, x -> x.whose(-1));
        refused(MID, "whose: sheet 4", BAD, x -> x.whose(4));
        refused(MID, "whose: missing", NOTHING, x -> x.whose(3));
    }

    private static void since() {
        refused(MID, "since: sheet -1", NO, x -> x.since(-1, 1));
        refused(MID, "since: sheet 4", NO, x -> x.since(4, 1));
        refused(MID, "since: missing", NO, x -> x.since(3, 1));
        refused(MID, "since: man -1", NO, x -> x.since(0, -1));
        refused(MID, "since: man 5 of five", NO, x -> x.since(0, 5));
    }

    private static void film() {
        refused(MID, "film: sheet -1", BAD, x -> x.film(-1, 1, 1));
        refused(MID, "film: sheet 4", BAD, x -> x.film(4, 1, 1));
        refused(MID, "film: BAD ahead of -5, -7", BAD, x -> x.film(4, 5, 41));
        refused(MID, "film: man -1", NO_MAN, x -> x.film(0, -1, 1));
        refused(MID, "film: man 5 of five", NO_MAN, x -> x.film(0, 5, 1));
        refused(MID, "film: -5 ahead of -7", NO_MAN, x -> x.film(0, 5, 41));
        refused(MID, "film: n -1", NOT_SO, x -> x.film(0, 1, -1));
        refused(MID, "film: n 41", NOT_SO, x -> x.film(0, 1, 41));
        refused(MID, "film: a missing sheet stays so", NOT_SO, x -> x.film(3, 1, 41));
    }

    private static void lots() {
        refused(MID, "drawn: seed -1", BAD, x -> x.drawn(-1, 1, 0));
        refused(MID, "drawn: seed 100000", BAD, x -> x.drawn(100000, 1, 0));
        refused(MID, "drawn: n -1", BAD, x -> x.drawn(0, -1, 0));
        refused(MID, "drawn: n 61", BAD, x -> x.drawn(0, 61, 0));
        refused(MID, "drawn: what -1", BAD, x -> x.drawn(0, 1, -1));
        refused(MID, "drawn: what 3", BAD, x -> x.drawn(0, 1, 3));
        refused(MID, "odds: seed -1", NO, x -> x.odds(-1, 1, 1, 0));
        refused(MID, "odds: seed 100000", NO, x -> x.odds(100000, 1, 1, 0));
        refused(MID, "odds: seeds 0", NO, x -> x.odds(0, 0, 1, 0));
        refused(MID, "odds: seeds 21", NO, x -> x.odds(0, 21, 1, 0));
        refused(MID, "odds: n -1", NO, x -> x.odds(0, 1, -1, 0));
        refused(MID, "odds: n 61", NO, x -> x.odds(0, 1, 61, 0));
        refused(MID, "odds: part -1", NO, x -> x.odds(0, 1, 1, -1));
        refused(MID, "odds: part 2", NO, x -> x.odds(0, 1, 1, 2));
        refused(FULL, "back: there is no image", STATE, x -> x.back());
    }

    private static void sheets() {
        refused(MID, "sheet: -1", BAD, x -> x.sheet(-1, 0, 1));
        refused(MID, "sheet: 4", BAD, x -> x.sheet(4, 0, 1));
        refused(MID, "sheet: 4, missing", BAD, x -> x.sheet(4, -1, 1));
        refused(MID, "sheet: sort -2", BAD, x -> x.sheet(0, -2, 1));
        refused(MID, "sheet: sort 3", BAD, x -> x.sheet(0, 3, 1));
        refused(MID, "sheet: n 41", BAD, x -> x.sheet(0, 0, 41));
        refused(MID, "sheet: n MAX", BAD, x -> x.sheet(0, 0, MAX));
        refused(MID, "sheet: n -1", BELOW_ZERO, x -> x.sheet(0, 0, -1));
        refused(MID, "sheet: n MIN", BELOW_ZERO, x -> x.sheet(0, 2, MIN));
        refused(MID, "sheet: BAD sheet ahead of -14", BAD, x -> x.sheet(4, 0, -1));
        refused(MID, "sheet: BAD sort ahead of -14", BAD, x -> x.sheet(0, 3, -1));
        refused(MID, "sheet: BAD sort -2 ahead of -14", BAD, x -> x.sheet(0, -2, -1));
        refused(MID, "cell: sheet -1", BAD, x -> x.cell(-1, 0, 1));
        refused(MID, "cell: sheet 4", BAD, x -> x.cell(4, 0, 1));
        refused(MID, "cell: BAD ahead of -12", BAD, x -> x.cell(4, -1, 1));
        refused(MID, "cell: missing", NOTHING, x -> x.cell(3, 0, 1));
        refused(MID, "cell: -11 ahead of -12", NOTHING, x -> x.cell(3, -1, 1));
        refused(MID, "cell: place -1", OUTSIDE, x -> x.cell(0, -1, 1));
        refused(MID, "cell: place 3 of three", OUTSIDE, x -> x.cell(0, 3, 1));
        refused(FULL, "cell: place 40 of 40", OUTSIDE, x -> x.cell(0, 40, 1));
        refused(MID, "cell: place MIN", OUTSIDE, x -> x.cell(0, MIN, 1));
        refused(MID, "cell: place MAX", OUTSIDE, x -> x.cell(0, MAX, 1));
    }

    private static void copies() {
        refused(MID, "copy: sheet -1", BAD, x -> x.copy(-1, 0, 0, 0, 1));
        refused(MID, "copy: sheet 4", BAD, x -> x.copy(4, 0, 0, 0, 1));
        refused(MID, "copy: to sheet -1", BAD, x -> x.copy(0, 0, -1, 0, 1));
        refused(MID, "copy: to sheet 4", BAD, x -> x.copy(0, 0, 4, 0, 1));
        refused(MID, "copy: BAD ahead of -11", BAD, x -> x.copy(3, 0, 4, 0, 1));
        refused(MID, "copy: BAD ahead of -12", BAD, x -> x.copy(0, -1, 4, 0, -1));
        refused(MID, "copy: missing", NOTHING, x -> x.copy(3, 0, 0, 0, 1));
        refused(MID, "copy: to a missing one", NOTHING, x -> x.copy(0, 0, 3, 0, 1));
        refused(MID, "copy: missing to itself", NOTHING, x -> x.copy(3, 0, 3, 0, 0));
        refused(MID, "copy: -11 ahead of -12", NOTHING, x -> x.copy(0, -1, 3, 0, -1));
        refused(MID, "copy: bytes to shorts", UNLIKE, x -> x.copy(0, 0, 1, 0, 1));
        refused(MID, "copy: shorts to ints", UNLIKE, x -> x.copy(1, 0, 2, 0, 1));
        refused(MID, "copy: ints to bytes, none", UNLIKE, x -> x.copy(2, 0, 0, 0, 0));
        refused(MID, "copy: -13 ahead of -12, i", UNLIKE, x -> x.copy(0, -1, 1, 0, 1));
        refused(MID, "copy: -13 ahead of -12, n", UNLIKE, x -> x.copy(0, 0, 1, 0, -1));
        refused(FULL, "copy: i -1", OUTSIDE, x -> x.copy(0, -1, 3, 0, 1));
        refused(FULL, "copy: j -1", OUTSIDE, x -> x.copy(0, 0, 3, -1, 1));
        refused(FULL, "copy: n -1", OUTSIDE, x -> x.copy(0, 0, 3, 0, -1));
        refused(FULL, "copy: n 41", OUTSIDE, x -> x.copy(0, 0, 3, 0, 41));
        refused(FULL, "copy: i 40, one", OUTSIDE, x -> x.copy(0, 40, 3, 0, 1));
        refused(FULL, "copy: j 40, one", OUTSIDE, x -> x.copy(0, 0, 3, 40, 1));
        refused(FULL, "copy: i 39, two", OUTSIDE, x -> x.copy(0, 39, 3, 0, 2));
        refused(FULL, "copy: j 39, two", OUTSIDE, x -> x.copy(0, 0, 3, 39, 2));
        refused(FULL, "copy: i 41, none", OUTSIDE, x -> x.copy(0, 41, 3, 0, 0));
        refused(FULL, "copy: j 41, none", OUTSIDE, x -> x.copy(0, 0, 3, 41, 0));
        refused(FULL, "copy: to its own, outside", OUTSIDE, x -> x.copy(0, 0, 0, 1, 40));
        refused(FULL, "copy: i and n beyond all numbers", OUTSIDE, x -> x.copy(0, MAX, 3, 0, MAX));
        refused(FULL, "copy: j and n beyond all numbers", OUTSIDE, x -> x.copy(0, 0, 3, MAX, MAX));
    }

    private static void menBy() {
        refused(MID, "menBy: sheet -1", BAD, x -> x.menBy(-1, 0, 0, 1));
        refused(MID, "menBy: sheet 4", BAD, x -> x.menBy(4, 0, 0, 1));
        refused(MID, "menBy: sort -1", BAD, x -> x.menBy(0, -1, 0, 1));
        refused(MID, "menBy: sort 3", BAD, x -> x.menBy(0, 3, 0, 1));
        refused(MID, "menBy: n -1", BAD, x -> x.menBy(0, 0, 0, -1));
        refused(MID, "menBy: n 7", BAD, x -> x.menBy(0, 0, 0, 7));
        refused(MID, "menBy: BAD sort ahead of -11", BAD, x -> x.menBy(3, -1, 0, 1));
        refused(MID, "menBy: BAD n ahead of -11", BAD, x -> x.menBy(3, 0, 0, 7));
        refused(MID, "menBy: BAD n ahead of -13", BAD, x -> x.menBy(0, 1, 0, 7));
        refused(MID, "menBy: BAD n ahead of -12", BAD, x -> x.menBy(0, 0, -1, 7));
        refused(MID, "menBy: missing", NOTHING, x -> x.menBy(3, 0, 0, 1));
        refused(MID, "menBy: -11 ahead of -13 and -12", NOTHING, x -> x.menBy(3, 2, -1, 1));
        refused(MID, "menBy: bytes for shorts", UNLIKE, x -> x.menBy(0, 1, 0, 1));
        refused(MID, "menBy: ints for shorts, none", UNLIKE, x -> x.menBy(2, 1, 0, 0));
        refused(MID, "menBy: -13 ahead of -12", UNLIKE, x -> x.menBy(0, 1, -1, 1));
        refused(MID, "menBy: place -1", OUTSIDE, x -> x.menBy(0, 0, -1, 1));
        refused(MID, "menBy: place 1 of three", OUTSIDE, x -> x.menBy(0, 0, 1, 1));
        refused(MID, "menBy: place 3 of three", OUTSIDE, x -> x.menBy(0, 0, 3, 1));
        refused(MID, "menBy: place MIN", OUTSIDE, x -> x.menBy(0, 0, MIN, 6));
        refused(MID, "menBy: place MAX", OUTSIDE, x -> x.menBy(0, 0, MAX, 6));
        refused(FULL, "menBy: outside, though there is no room", OUTSIDE, x -> x.menBy(0, 0, 38, 1));
        refused(FULL, "menBy: those without room are left out", 0, x -> x.menBy(0, 0, 1, 6));
    }

    private static void taken() {
        refused(MID, "taken: kind -1", BAD, x -> x.taken(0, -1));
        refused(MID, "taken: kind 7", BAD, x -> x.taken(0, 7));
        refused(MID, "taken: BAD ahead of -12", BAD, x -> x.taken(-1, 7));
        refused(MID, "taken: BAD ahead of -11", BAD, x -> x.taken(5, 7));
        refused(MID, "taken: place -1", OUTSIDE, x -> x.taken(-1, 0));
        refused(MID, "taken: place 14", OUTSIDE, x -> x.taken(14, 6));
        refused(FULL, "taken: place 14, all being there", OUTSIDE, x -> x.taken(14, 6));
        refused(MID, "taken: no man there", NOTHING, x -> x.taken(5, 0));
        refused(MID, "taken: -11 ahead of -13, man", NOTHING, x -> x.taken(5, 6));
        refused(MID, "taken: no vow there", NOTHING, x -> x.taken(12, 6));
        refused(MID, "taken: -11 ahead of -13, vow", NOTHING, x -> x.taken(13, 0));
        refused(MID, "taken: a man for a vow", UNLIKE, x -> x.taken(0, 6));
        refused(MID, "taken: a vow for a man", UNLIKE, x -> x.taken(6, 0));
        refused(MID, "taken: a man for a grey", UNLIKE, x -> x.taken(0, 1));
        refused(MID, "taken: a grey for a hermit", UNLIKE, x -> x.taken(1, 3));
    }

    /** A new object has no man, no vow, no image, one text, no sheet. */
    private static void newObject() {
        refused(NEW, "asks", BAD, x -> x.asks(0, 0, 0));
        refused(NEW, "force(1)", BAD, x -> x.force(1));
        refused(NEW, "set", NO_MAN, x -> x.set(0, 0, 0));
        refused(NEW, "told", NO_MAN, x -> x.told(0, 0));
        refused(NEW, "vow", BAD, x -> x.vow(1, 1, 0));
        refused(NEW, "bond", NO_VOW, x -> x.bond(0, 0));
        refused(NEW, "plaits", NO_VOW, x -> x.plaits(0, 1));
        refused(NEW, "pass", NO_VOW, x -> x.pass(0, 0));
        refused(NEW, "run: no man", NOT_SO, x -> x.run(1, 10));
        refused(NEW, "run: no vow", NOT_SO, x -> x.run(1, 20));
        refused(NEW, "ripe", NO_MAN, x -> x.ripe(0, 0));
        refused(NEW, "soonest", NO_MAN, x -> x.soonest(0, 1));
        refused(NEW, "net", -1000005, x -> x.net(0));
        refused(NEW, "falls(1, 0)", BAD, x -> x.falls(1, 0));
        refused(NEW, "film", NO_MAN, x -> x.film(0, 0, 0));
        refused(NEW, "back", STATE, x -> x.back());
        for (int s = 0; s < 4; s++) {
            int t = s;
            refused(NEW, "take, sheet " + t, NOTHING, x -> x.take(t, 0, 0));
            refused(NEW, "whose, sheet " + t, NOTHING, x -> x.whose(t));
        }
        refused(NEW, "taken: no man", NOTHING, x -> x.taken(0, 0));
        refused(NEW, "taken: no vow", NOTHING, x -> x.taken(6, 6));
    }
}
