import java.util.function.Consumer;
import java.util.function.ToLongFunction;

/** Objects to hold calls against: each is made anew by the same calls. */
final class Worlds {
    static final Consumer<BeardsAreBonds> MID = Worlds::mid;
    static final Consumer<BeardsAreBonds> FULL = Worlds::full;
    static final Consumer<BeardsAreBonds> NEW = x -> { };

    private Worlds() {
    }

    static BeardsAreBonds make(Consumer<BeardsAreBonds> world) {
        BeardsAreBonds x = new BeardsAreBonds();
        world.accept(x);
        return x;
    }

    /** What a call answers in a world, and what is otherwise behind it: nothing else may be. */
    static void due(Check check, Consumer<BeardsAreBonds> world, String call, ToLongFunction<BeardsAreBonds> asked,
            long answer, String changes) {
        BeardsAreBonds x = make(world);
        check.due(call, asked.applyAsLong(x), answer);
        String found = State.of(make(world)).otherwiseIn(State.of(x));
        check.due(call + " changed [" + found + "], due is [" + changes + "];", found.equals(changes) ? 1 : 0, 1);
    }

    /**
     * Five men, the first one SHORN; six vows: 0 BROKEN, 1 PAID, 3 and 4 plaited, 1 and 2 rings; week 2; two texts,
     * the second one the law; a sheet of each sort, the fourth one missing; an image of four men; seven bytes.
     */
    private static void mid(BeardsAreBonds x) {
        x.man(0, 0, 0);
        x.man(1, 7, 30);
        x.man(2, 1, 25);
        x.man(3, 5, 40);
        x.set(1, 1, 3);
        x.set(2, 2, 4);
        x.vow(1, 200, 0);
        x.vow(12, 9, 1);
        x.vow(21, 15, 9);
        x.vow(31, 20, 7);
        x.vow(32, 30, 5);
        x.vow(13, 12, 8);
        x.plaits(3, 4);
        x.live();
        x.live();
        x.image();
        x.man(4, 2, 60);
        x.set(2, 0, 33);
        x.set(3, 1, 6);
        Check.law(x, "grows 1+more;trims oil;shames rank+week;");
        Check.sheet(x, 0, 0, 5, 6, 7);
        Check.sheet(x, 1, 1, 14, 0, 20, 59);
        Check.sheet(x, 2, 2, 1, 2, 3, 4, 5, 999);
        Check.feedAll(x, "grows 3");
    }

    /** Six men, the first one SHORN, eight vows, six texts, a tape of 160 bytes, four sheets of 40; no image. */
    private static void full(BeardsAreBonds x) {
        for (int m = 0; m < 6; m++) {
            x.man(m, m, 10 * m);
        }
        x.vow(1, 200, 0);
        x.live();
        for (int v = 1; v < 8; v++) {
            x.vow(v % 2 == 0 ? 12 : 34, 10 + v, 9 + v);
        }
        for (int t = 1; t < 6; t++) {
            Check.text(x, "grows " + t + ";trims week;shames more;");
        }
        for (int s = 0; s < 4; s++) {
            x.sheet(s, s % 3, 40);
            x.cell(s, 0, 7 + s);
            x.cell(s, 39, 9);
        }
        for (int i = 0; i < 32; i++) {
            Check.feedAll(x, "1 + 2");
        }
    }
}
