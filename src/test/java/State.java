import java.util.LinkedHashMap;
import java.util.Map;
import java.util.TreeSet;

/**
 * All that can be seen of an object, by names. Looking so closely changes the object (and asks more calls of it than
 * are promised): so one is looked at once, and made anew by the same calls to look again.
 */
final class State {
    private final Map<String, Long> seen = new LinkedHashMap<>();

    private State() {
    }

    static State of(BeardsAreBonds x) {
        State state = new State();
        state.people("", x);
        state.texts(x);
        state.sheets(x);
        state.tape(x);
        state.see("back", x.back());
        state.people("image: ", x);
        return state;
    }

    /** The names of what is otherwise in another state, with what it is there. */
    String otherwiseIn(State other) {
        TreeSet<String> names = new TreeSet<>(seen.keySet());
        names.addAll(other.seen.keySet());
        StringBuilder found = new StringBuilder();
        for (String name : names) {
            Long here = seen.get(name);
            Long there = other.seen.get(name);
            if (here == null || !here.equals(there)) {
                found.append(found.length() == 0 ? "" : ", ").append(name).append(" = ").append(there);
            }
        }
        return found.toString();
    }

    private void see(String name, long value) {
        seen.put(name, value);
    }

    private void people(String ahead, BeardsAreBonds x) {
        for (int what = 0; what < 5; what++) {
            see(ahead + "count " + what, x.count(what));
        }
        for (int m = 0; m < 6; m++) {
            for (int what = 0; what < 9; what++) {
                see(ahead + "told " + m + " " + what, x.told(m, what));
            }
        }
        for (int v = 0; v < 8; v++) {
            for (int what = 0; what < 7; what++) {
                see(ahead + "bond " + v + " " + what, x.bond(v, what));
            }
        }
    }

    private void texts(BeardsAreBonds x) {
        int law = x.count(4);
        for (int t = 0; t < x.count(3); t++) {
            x.force(t);
            for (int part = 0; part < 3; part++) {
                see("text " + t + " part " + part, x.asks(part, 1, 3));
            }
        }
        x.force(law);
    }

    private void sheets(BeardsAreBonds x) {
        for (int s = 0; s < 4; s++) {
            int sort = -1;
            for (int asked = 0; asked < 3; asked++) {
                sort = x.menBy(s, asked, 0, 0) == 0 ? asked : sort;
            }
            see("sheet " + s, sort);
            int size = 0;
            while (size < 41 && x.copy(s, 0, s, 0, size + 1) == size + 1) {
                size++;
            }
            see("sheet " + s + " size", size);
            for (int i = 0; i < size; i++) {
                see("sheet " + s + " number " + i, number(x, s, i));
            }
        }
    }

    /** A number of 0 to 999, by the beard of a shorn man, which doesn't grow; -1: another one. */
    private static int number(BeardsAreBonds x, int s, int i) {
        x.copy(s, i, s, 0, 1);
        int shorn = 0;
        while (x.told(shorn, 5) == 0) {
            shorn++;
        }
        for (int v = 0; v < 1000; v++) {
            x.set(shorn, 0, v);
            if (x.judge(s, shorn) != 0) {
                return v;
            }
        }
        return -1;
    }

    private void tape(BeardsAreBonds x) {
        see("tape", x.count(5));
        see("text", x.text());
    }
}
