/** Promises 7 to 13: man, set, told, vow, bond, plaits, pass. */
public final class MenVowsTest {
    private static final Check check = new Check("MenVowsTest");

    public static void main(String[] args) {
        men();
        setting();
        telling();
        counts();
        vows();
        vowsRefused();
        plaiting();
        passing();
        check.end();
    }

    private static void men() {
        BeardsAreBonds x = new BeardsAreBonds();
        check.due("man: kind -1", x.man(-1, 0, 0), -2);
        check.due("man: kind 6", x.man(6, 0, 0), -2);
        check.due("man: more -1", x.man(0, -1, 0), -2);
        check.due("man: more 10", x.man(0, 10, 0), -2);
        check.due("man: inches -1", x.man(0, 0, -1), -2);
        check.due("man: inches 1000", x.man(0, 0, 1000), -2);
        check.due("none came", x.count(0), 0);
        for (int m = 0; m < 6; m++) {
            check.due("man " + m, x.man(m, 9, 999), m);
        }
        check.due("man: FULL", x.man(0, 0, 0), -4);
        check.due("man: BAD ahead of FULL", x.man(6, 0, 0), -2);
        check.due("six men", x.count(0), 6);
    }

    private static void setting() {
        BeardsAreBonds x = new BeardsAreBonds();
        check.due("set: no man", x.set(0, 0, 0), -5);
        x.man(0, 0, 30);
        x.man(0, 0, 40);
        check.due("set: no man, no what", x.set(2, 7, 0), -5);
        check.due("set: man -1", x.set(-1, 0, 0), -5);
        check.due("set: what -1", x.set(0, -1, 0), -7);
        check.due("set: what 3", x.set(0, 3, 0), -7);
        check.due("set: beard 1000", x.set(0, 0, 1000), -7);
        check.due("set: beard -1", x.set(0, 0, -1), -7);
        check.due("set: oil 10", x.set(0, 1, 10), -7);
        check.due("set: oil -1", x.set(0, 1, -1), -7);
        check.due("set: rank 10", x.set(0, 2, 10), -7);
        check.due("set: rank -1", x.set(0, 2, -1), -7);
        check.due("beard", x.set(0, 0, 999), 30);
        check.due("beard again", x.set(0, 0, 0), 999);
        check.due("oil", x.set(0, 1, 9), 0);
        check.due("oil again", x.set(0, 1, 4), 9);
        check.due("rank", x.set(0, 2, 9), 0);
        check.due("rank again", x.set(0, 2, 5), 9);
        int[] want = {0, 0, 0, 4, 5};
        for (int what = 0; what < want.length; what++) {
            check.due("told(0, " + what + ")", x.told(0, what), want[what]);
        }
        check.due("the other one stays", x.told(1, 2), 40);
        x.vow(1, 200, 0);
        x.live();
        check.due("he is shorn", x.told(0, 5), 1);
        check.due("beard of a shorn one", x.set(0, 0, 70), 0);
        check.due("he has it", x.told(0, 2), 70);
        check.due("oil of a shorn one", x.set(0, 1, 1), 4);
    }

    private static void telling() {
        BeardsAreBonds x = new BeardsAreBonds();
        check.due("told: no man", x.told(0, 0), -5);
        x.man(3, 8, 21);
        x.man(0, 0, 0);
        check.due("told: man -1", x.told(-1, 0), -5);
        check.due("told: man 2, what 9", x.told(2, 9), -5);
        check.due("told: what -1", x.told(0, -1), -7);
        check.due("told: what 9", x.told(0, 9), -7);
        x.vow(1, 20, 5);
        x.vow(1, 30, 6);
        x.vow(10, 7, 6);
        int[] want = {3, 8, 21, 0, 0, 0, 42, 4, 50};
        for (int what = 0; what < want.length; what++) {
            check.due("told(0, " + what + ")", x.told(0, what), want[what]);
        }
        check.due("owed by the other", x.told(1, 8), 7);
    }

    private static void counts() {
        BeardsAreBonds x = new BeardsAreBonds();
        int[] grace = {0, 0, 1, 4, 1, 0};
        int[] counts = {333, 666, 333, 666, 199, 333};
        for (int kind = 0; kind < 6; kind++) {
            x.man(kind, 3, 333);
            check.due("counts, kind " + kind, x.told(kind, 6), counts[kind]);
            check.due("grace, kind " + kind, x.told(kind, 7), grace[kind]);
        }
        x = new BeardsAreBonds();
        x.man(4, 9, 999);
        x.man(4, 0, 999);
        x.man(4, 8, 9);
        check.due("glued, more 9", x.told(0, 6), 0);
        check.due("glued, more 0", x.told(1, 6), 899);
        check.due("glued, cut to 0", x.told(2, 6), 0);
    }

    private static void vows() {
        BeardsAreBonds x = new BeardsAreBonds();
        x.man(0, 0, 0);
        x.man(0, 0, 0);
        x.man(0, 0, 0);
        check.due("vow", x.vow(21, 200, 999), 0);
        check.due("vow of one inch, due now", x.vow(2, 1, 0), 1);
        int[] want = {2, 1, 200, 999, -1, 0, 999};
        for (int what = 0; what < want.length; what++) {
            check.due("bond(0, " + what + ")", x.bond(0, what), want[what]);
        }
        check.due("from 0", x.bond(1, 0), 0);
        check.due("to 2", x.bond(1, 1), 2);
        check.due("bond: -1", x.bond(-1, 0), -6);
        check.due("bond: 2", x.bond(2, 9), -6);
        check.due("bond: what -1", x.bond(0, -1), -7);
        check.due("bond: what 7", x.bond(0, 7), -7);
    }

    private static void vowsRefused() {
        BeardsAreBonds x = new BeardsAreBonds();
        check.due("vow: no men", x.vow(1, 1, 1), -2);
        x.man(0, 0, 0);
        x.man(0, 0, 0);
        int[] wrong = {-1, -10, -11, 0, 11, 2, 20, 12, 101, 110, Integer.MAX_VALUE, Integer.MIN_VALUE};
        for (int fromTo : wrong) {
            check.due("vow(" + fromTo + ", 1, 1)", x.vow(fromTo, 1, 1), -2);
        }
        check.due("vow: 0 inches", x.vow(1, 0, 1), -2);
        check.due("vow: 201 inches", x.vow(1, 201, 1), -2);
        check.due("vow: due -1", x.vow(1, 1, -1), -2);
        check.due("vow: due 1000", x.vow(1, 1, 1000), -2);
        x.live();
        x.live();
        check.due("vow: due ahead of the week", x.vow(1, 1, 1), -3);
        check.due("vow: BAD ahead of STATE", x.vow(1, 0, 1), -2);
        check.due("vow: due this week", x.vow(1, 200, 2), 0);
        x.live();
        check.due("vow: from a shorn one", x.vow(1, 1, 9), -3);
        check.due("vow: to a shorn one", x.vow(10, 1, 9), 1);
        for (int v = 2; v < 8; v++) {
            check.due("vow " + v, x.vow(10, 1, 9), v);
        }
        check.due("vow: FULL", x.vow(10, 1, 9), -4);
        check.due("vow: STATE ahead of FULL", x.vow(10, 1, 2), -3);
        check.due("vow: BAD ahead of FULL", x.vow(11, 1, 9), -2);
    }

    private static void plaiting() {
        BeardsAreBonds x = new BeardsAreBonds();
        x.man(0, 0, 0);
        x.man(0, 0, 100);
        x.vow(1, 5, 9);
        x.vow(1, 6, 4);
        x.vow(10, 7, 8);
        x.vow(1, 8, 2);
        check.due("plaits: -1", x.plaits(-1, 0), -6);
        check.due("plaits: 4", x.plaits(0, 4), -6);
        check.due("plaits: one and the same", x.plaits(1, 1), -6);
        check.due("plaits: unlike men", x.plaits(0, 2), -3);
        check.due("plaits", x.plaits(1, 0), 9);
        check.due("bond(0, 4)", x.bond(0, 4), 1);
        check.due("bond(1, 4)", x.bond(1, 4), 0);
        check.due("bond(0, 6)", x.bond(0, 6), 9);
        check.due("bond(1, 6)", x.bond(1, 6), 9);
        check.due("bond(1, 3): due stays", x.bond(1, 3), 4);
        check.due("plaits: the first is", x.plaits(0, 3), -3);
        check.due("plaits: the first is, with vow 0", x.plaits(1, 3), -3);
        check.due("plaits: the second is", x.plaits(3, 1), -3);
        check.due("plaits: both are", x.plaits(0, 1), -3);
        x.vow(1, 8, 3);
        x.run(10, 0);
        x.live();
        x.live();
        x.live();
        check.due("vow 3 is paid", x.bond(3, 5), 1);
        check.due("plaits: paid", x.plaits(3, 4), -3);
        check.due("plaits: paid, the second", x.plaits(4, 3), -3);
    }

    private static void passing() {
        BeardsAreBonds x = new BeardsAreBonds();
        x.man(0, 0, 0);
        x.man(0, 0, 0);
        x.man(0, 0, 0);
        x.vow(1, 5, 0);
        x.vow(10, 3, 7);
        check.due("pass: -1", x.pass(-1, 0), -6);
        check.due("pass: 2, and no man", x.pass(2, 9), -6);
        check.due("pass: no man", x.pass(0, 3), -5);
        check.due("pass: man -1", x.pass(0, -1), -5);
        check.due("pass: from whom it is", x.pass(0, 0), -5);
        check.due("pass", x.pass(0, 2), 1);
        check.due("it is to 2", x.bond(0, 1), 2);
        check.due("pass to the same one", x.pass(0, 2), 2);
        check.due("pass back", x.pass(0, 1), 2);
        x.live();
        check.due("it is broken", x.bond(0, 5), 2);
        check.due("pass: it doesn't stand", x.pass(0, 2), -3);
        check.due("pass: -5 ahead of STATE", x.pass(0, 0), -5);
        check.due("pass to a shorn one", x.pass(1, 2), 0);
        check.due("pass to a shorn one", x.pass(1, 0), 2);
    }
}
