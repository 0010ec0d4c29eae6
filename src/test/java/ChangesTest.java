import java.util.function.Consumer;
import java.util.function.ToLongFunction;

/** What is asked changes nothing; what is done changes what is told of it, and nothing else. */
public final class ChangesTest {
    private static final Check check = new Check("ChangesTest");
    private static final Consumer<BeardsAreBonds> MID = Worlds.MID;
    private static final Consumer<BeardsAreBonds> FULL = Worlds.FULL;

    public static void main(String[] args) {
        asked();
        law();
        men();
        vows();
        weeks();
        rings();
        films();
        images();
        host();
        check.end();
    }

    /** Behind the call nothing is otherwise but what stands there, in the order of the names. */
    private static void changed(Consumer<BeardsAreBonds> world, String call, long answer, String changes,
            ToLongFunction<BeardsAreBonds> asked) {
        Worlds.due(check, world, call, asked, answer, changes);
    }

    private static void quiet(String call, ToLongFunction<BeardsAreBonds> asked) {
        for (Consumer<BeardsAreBonds> world : java.util.List.of(MID, FULL)) {
            changed(world, call, asked.applyAsLong(Worlds.make(world)), "", asked);
        }
    }

    private static void asked() {
        for (int what = 0; what < 10; what++) {
            int w = what;
            quiet("count " + w, x -> x.count(w));
            quiet("asks " + w, x -> x.asks(w, 1, 50));
            quiet("told " + w, x -> x.told(1, w));
            quiet("bond " + w, x -> x.bond(3, w));
            quiet("run 60, " + w, x -> x.run(60, w));
            quiet("run 60, man " + w, x -> x.run(60, 10 + w));
            quiet("run 60, vow " + w, x -> x.run(60, 20 + w));
            quiet("drawn " + w, x -> x.drawn(w, 60, w));
            quiet("ring " + w, x -> x.ring(w));
            quiet("pillar " + w, x -> x.pillar(w));
            quiet("net " + w, x -> x.net(w));
            quiet("falls " + w, x -> x.falls(w, w & 1));
            quiet("day " + w, x -> x.day(w & 1, w >> 1));
            quiet("odds " + w, x -> x.odds(w, 20, 60, w & 1));
            quiet("taken " + w, x -> x.taken(w, w < 6 ? 0 : 6));
            quiet("kinds " + w, x -> x.kinds(1, 2, w));
        }
        for (int man = 0; man < 6; man++) {
            int m = man;
            quiet("ripe " + m, x -> x.ripe(m, 1998));
            quiet("soonest " + m, x -> x.soonest(m, 200));
            quiet("take 0 " + m, x -> x.take(1, m, 0));
            quiet("take 1 " + m, x -> x.take(1, m, 1));
            for (int sheet = 0; sheet < 4; sheet++) {
                int s = sheet;
                quiet("judge " + s + " " + m, x -> x.judge(s, m));
                quiet("kinds " + s + " " + m, x -> x.kinds(s, m, 0));
                quiet("since " + s + " " + m, x -> x.since(s, m));
                quiet("laws " + s + " " + m, x -> x.laws(s, m));
                quiet("whose " + s, x -> x.whose(s));
            }
        }
    }

    private static void law() {
        changed(MID, "feed", 12, "tape = 12, text = -108", x -> x.feed(5, ' ', '1', '2', '3', '4'));
        changed(MID, "feed of one", 8, "tape = 8, text = -108", x -> x.feed(1, '4', ';', ';', ';', ';'));
        // the tape's bytes stay ahead of those that come
        changed(Worlds.NEW, "feed of three", 3, "tape = 3, text = -102", x -> x.feed(3, ' ', ' ', '?', ' ', ' '));
        changed(MID, "force", 1, "count 4 = 0", x -> x.force(0));
        changed(MID, "force of THE LAW", 1, "", x -> x.force(1));
        Consumer<BeardsAreBonds> fed = x -> {
            Worlds.MID.accept(x);
            Check.feedAll(x, "6;trims 7;shames 8;");
        };
        changed(fed, "text", 2, "count 3 = 3, tape = 0, text = -100, text 2 part 0 = 36, "
            + "text 2 part 1 = 7, text 2 part 2 = 8", x -> x.text());
    }

    private static void men() {
        changed(MID, "man", 5, "count 0 = 6, told 5 0 = 3, told 5 1 = 9, told 5 2 = 999, told 5 3 = 0, told 5 4 = 0, "
            + "told 5 5 = 0, told 5 6 = 1998, told 5 7 = 4, told 5 8 = 0", x -> x.man(3, 9, 999));
        changed(MID, "set: beard", 25, "told 1 2 = 999, told 1 6 = 1998", x -> x.set(1, 0, 999));
        changed(MID, "set: beard 0", 25, "told 1 2 = 0, told 1 6 = 0", x -> x.set(1, 0, 0));
        changed(MID, "set: beard of a shorn one", 0, "told 0 2 = 8, told 0 6 = 8", x -> x.set(0, 0, 8));
        changed(MID, "set: oil", 3, "text 0 part 0 = 13, text 1 part 1 = 9, told 1 3 = 9", x -> x.set(1, 1, 9));
        changed(MID, "set: rank", 4, "told 2 4 = 0", x -> x.set(2, 2, 0));
        changed(MID, "set: as it was", 4, "", x -> x.set(2, 2, 4));
    }

    private static void vows() {
        changed(MID, "vow", 6, "bond 6 0 = 1, bond 6 1 = 4, bond 6 2 = 200, bond 6 3 = 2, bond 6 4 = -1, bond 6 5 = 0, "
            + "bond 6 6 = 2, count 1 = 7, told 1 8 = 212", x -> x.vow(14, 200, 2));
        changed(MID, "vow to a shorn one", 6, "bond 6 0 = 4, bond 6 1 = 0, bond 6 2 = 1, bond 6 3 = 999, bond 6 4 = -1, "
            + "bond 6 5 = 0, bond 6 6 = 999, count 1 = 7, told 4 8 = 1", x -> x.vow(40, 1, 999));
        Consumer<BeardsAreBonds> third = x -> {
            Worlds.MID.accept(x);
            x.vow(21, 4, 99);
        };
        changed(third, "plaits", 99, "bond 2 4 = 6, bond 2 6 = 99, bond 6 4 = 2", x -> x.plaits(6, 2));
        changed(third, "plaits, turned", 99, "bond 2 4 = 6, bond 2 6 = 99, bond 6 4 = 2", x -> x.plaits(2, 6));
        changed(MID, "pass", 1, "bond 2 1 = 0", x -> x.pass(2, 0));
        changed(MID, "pass of a plaited one", 2, "bond 4 1 = 4", x -> x.pass(4, 4));
        changed(MID, "pass to whom it is", 1, "", x -> x.pass(2, 1));
    }

    private static void weeks() {
        Consumer<BeardsAreBonds> mild = x -> {
            Worlds.MID.accept(x);
            x.force(0);
        };
        // grey: 4 + 3 by 2; young: 5; hermit: 10 by 2 and 5 by 3; glued: 0 and 2
        changed(mild, "live", 0, "count 2 = 3, told 1 2 = 28, told 1 6 = 56, told 2 2 = 38, told 2 6 = 38, told 3 2 = 52, "
            + "told 3 6 = 104, told 4 2 = 62, told 4 6 = 43", x -> x.live());
        Consumer<BeardsAreBonds> due = x -> {
            mild.accept(x);
            x.vow(20, 38, 2);
            x.vow(41, 100, 2);
        };
        changed(due, "live: one pays, one has grace", 0, "bond 6 5 = 1, count 2 = 3, told 1 2 = 28, told 1 6 = 56, "
            + "told 2 2 = 0, told 2 6 = 0, told 2 8 = 15, told 3 2 = 52, told 3 6 = 104, told 4 2 = 62, told 4 6 = 43",
            x -> x.live());
        Consumer<BeardsAreBonds> late = x -> {
            mild.accept(x);
            x.vow(12, 57, 2);
        };
        changed(late, "live: one is shorn", 1, "bond 5 5 = 2, bond 6 5 = 2, count 2 = 3, told 1 2 = 0, told 1 5 = 1, "
            + "told 1 6 = 0, told 1 8 = 0, told 2 2 = 38, told 2 6 = 38, told 3 2 = 52, told 3 6 = 104, told 4 2 = 62, "
            + "told 4 6 = 43", x -> x.live());
    }

    private static void rings() {
        // the ring of vows 2, 5 and 4: the last one of them has the least inches
        changed(MID, "clear", 36, "bond 2 2 = 3, bond 4 2 = 18, bond 5 2 = 0, bond 5 5 = 3, told 1 8 = 0, told 2 8 = 3, "
            + "told 3 8 = 38", x -> x.clear());
        Consumer<BeardsAreBonds> plaited = x -> {
            Worlds.MID.accept(x);
            x.vow(13, 50, 7);
            x.plaits(5, 6);
        };
        // the cleared one is plaited with none, and so is the one that was plaited with it
        changed(plaited, "clear, a plaited one", 85, "bond 2 2 = 0, bond 2 5 = 3, bond 3 2 = 0, bond 3 4 = -1, "
            + "bond 3 5 = 3, bond 4 2 = 15, bond 4 4 = -1, bond 4 6 = 5, bond 5 2 = 0, bond 5 4 = -1, bond 5 5 = 3, "
            + "bond 6 2 = 27, bond 6 4 = -1, bond 6 6 = 7, told 1 8 = 27, told 2 8 = 0, told 3 8 = 15", x -> x.clear());
    }

    private static void films() {
        Consumer<BeardsAreBonds> mild = x -> {
            Worlds.MID.accept(x);
            x.force(0);
        };
        changed(mild, "film of a missing sheet", 2, "sheet 3 = 1, sheet 3 number 0 = 28, sheet 3 number 1 = 31, "
            + "sheet 3 size = 2", x -> x.film(3, 1, 2));
        changed(mild, "film of bytes", 2, "sheet 0 = 1, sheet 0 number 0 = 28, sheet 0 number 1 = 31, "
            + "sheet 0 number 2 = null, sheet 0 size = 2", x -> x.film(0, 1, 2));
        changed(mild, "film of none", 0, "sheet 0 = 1, sheet 0 number 0 = null, sheet 0 number 1 = null, "
            + "sheet 0 number 2 = null, sheet 0 size = 0", x -> x.film(0, 1, 0));
    }

    private static void images() {
        changed(MID, "image", 5, "back = 5, image: count 0 = 5, image: count 4 = 1, image: told 2 2 = 33, image: told 2 6 = 33, "
            + "image: told 3 3 = 6, image: told 4 0 = 4, image: told 4 1 = 2, image: told 4 2 = 60, image: told 4 3 = 0, "
            + "image: told 4 4 = 0, image: told 4 5 = 0, image: told 4 6 = 42, image: told 4 7 = 1, image: told 4 8 = 0",
            x -> x.image());
        changed(MID, "back", 4, "count 0 = 4, count 4 = 0, told 2 2 = 25, told 2 6 = 25, told 3 3 = 0, told 4 0 = -5, "
            + "told 4 1 = -5, told 4 2 = -5, told 4 3 = -5, told 4 4 = -5, told 4 5 = -5, told 4 6 = -5, told 4 7 = -5, "
            + "told 4 8 = -5", x -> x.back());
    }

    private static void host() {
        changed(MID, "sheet: missing", 1, "sheet 0 = -1, sheet 0 number 0 = null, sheet 0 number 1 = null, "
            + "sheet 0 number 2 = null, sheet 0 size = 0", x -> x.sheet(0, -1, 41));
        changed(MID, "sheet: a missing one missing", 1, "", x -> x.sheet(3, -1, -1));
        changed(MID, "sheet: ints, all 0", 1, "sheet 0 = 2, sheet 0 number 0 = 0, sheet 0 number 1 = 0, "
            + "sheet 0 number 2 = null, sheet 0 size = 2", x -> x.sheet(0, 2, 2));
        changed(MID, "sheet: bytes again, all 0", 1, "sheet 0 number 0 = 0, sheet 0 number 1 = 0, sheet 0 number 2 = 0",
            x -> x.sheet(0, 0, 3));
        changed(MID, "cell", 1, "sheet 0 number 2 = 100", x -> x.cell(0, 2, 100));
        changed(MID, "cell: lowest 8 bits", 1, "sheet 0 number 0 = 44", x -> x.cell(0, 0, 300));
        changed(MID, "cell: lowest 16 bits", 1, "sheet 1 number 3 = 300", x -> x.cell(1, 3, 65836));
        changed(MID, "copy onto its own, on", 5, "sheet 2 number 1 = 1, sheet 2 number 2 = 2, sheet 2 number 3 = 3, "
            + "sheet 2 number 4 = 4, sheet 2 number 5 = 5", x -> x.copy(2, 0, 2, 1, 5));
        changed(MID, "copy onto its own, back", 5, "sheet 2 number 0 = 2, sheet 2 number 1 = 3, sheet 2 number 2 = 4, "
            + "sheet 2 number 3 = 5, sheet 2 number 4 = 999", x -> x.copy(2, 1, 2, 0, 5));
        changed(MID, "copy of none, from the end", 0, "", x -> x.copy(2, 6, 2, 6, 0));
        changed(FULL, "copy of all", 40, "sheet 3 number 0 = 7", x -> x.copy(0, 0, 3, 0, 40));
        changed(FULL, "copy of the last", 1, "sheet 3 number 5 = 9", x -> x.copy(0, 39, 3, 5, 1));
        String five = "count 0 = 6, told 5 0 = 1, told 5 1 = 2, told 5 2 = 3, told 5 3 = 0, told 5 4 = 0, told 5 5 = 0, "
            + "told 5 6 = 6, told 5 7 = 0, told 5 8 = 0";
        changed(MID, "menBy", 1, five, x -> x.menBy(2, 2, 0, 1));
        changed(MID, "menBy: the second has no room", 1, five, x -> x.menBy(2, 2, 0, 2));
        changed(MID, "menBy: the third is outside, what stood ahead came", -12, five, x -> x.menBy(2, 2, 0, 3));
        changed(MID, "menBy: one that is none is left out", 0, "", x -> x.menBy(1, 1, 0, 1));
        changed(MID, "menBy: the last three", 1, five.replace("5 0 = 1", "5 0 = 4").replace("5 1 = 2", "5 1 = 5")
            .replace("5 2 = 3", "5 2 = 999").replace("5 6 = 6", "5 6 = 399").replace("5 7 = 0", "5 7 = 1"),
            x -> x.menBy(2, 2, 3, 1));
    }
}
