import java.util.ArrayList;
import java.util.List;
import java.util.Map;
import java.util.TreeMap;

/**
 * The document told once more, in the slowest and plainest way: texts are read anew from their signs
 * whenever they are asked, thoughts are lived in whole copies. RandomTest holds the class against it.
 */
final class Model {
    static final class Fault extends RuntimeException {
        private static final long serialVersionUID = 1;
        final int place;

        Fault(int place) {
            super(null, null, false, false);
            this.place = place;
        }
    }

    /** Reads a text and reckons its parts at once. */
    static final class Reckoner {
        private final String text;
        private final Map<String, Integer> names;
        private int p;
        private int open;

        Reckoner(String text, Map<String, Integer> names) {
            this.text = text;
            this.names = names;
        }

        int[] all() {
            int[] says = new int[3];
            String[] keys = {"grows", "trims", "shames"};
            for (int part = 0; part < 3; part++) {
                want(keys[part]);
                says[part] = or();
                want(";");
            }
            if (!peek().isEmpty()) {
                throw new Fault(p);
            }
            return says;
        }

        /** The next token, empty at the end; p is where it begins. */
        private String peek() {
            while (p < text.length() && (text.charAt(p) == ' ' || text.charAt(p) == '\n')) {
                p++;
            }
            int end = p;
            while (end < text.length() && sort(end) == sort(p) && (end == p || sort(p) != 0)) {
                end++;
            }
            return text.substring(p, end);
        }

        private int sort(int i) {
            char c = text.charAt(i);
            return 'a' <= c && c <= 'z' ? 1 : '0' <= c && c <= '9' ? 2 : 0;
        }

        private void want(String token) {
            if (!peek().equals(token)) {
                throw new Fault(p);
            }
            p += token.length();
        }

        private boolean comes(String token) {
            if (!peek().equals(token)) {
                return false;
            }
            p += token.length();
            return true;
        }

        private void opens() {
            if (open == 5) {
                throw new Fault(p);
            }
            open++;
        }

        private static int truth(boolean b) {
            return b ? 1 : 0;
        }

        private int or() {
            int a = and();
            while (comes("or")) {
                int b = and();
                a = truth(a != 0 || b != 0);
            }
            return a;
        }

        private int and() {
            int a = not();
            while (comes("and")) {
                int b = not();
                a = truth(a != 0 && b != 0);
            }
            return a;
        }

        private int not() {
            if (peek().equals("not")) {
                opens();
                want("not");
                int a = not();
                open--;
                return truth(a == 0);
            }
            int a = sum();
            if (comes("<")) {
                return truth(a < sum());
            }
            return comes("=") ? truth(a == sum()) : a;
        }

        private int sum() {
            int a = term();
            while (true) {
                if (comes("+")) {
                    a += term();
                } else if (comes("-")) {
                    a -= term();
                } else {
                    return a;
                }
            }
        }

        private int term() {
            int a = one();
            while (comes("*")) {
                a *= one();
            }
            return a;
        }

        private int one() {
            String token = peek();
            if (token.equals("-")) {
                opens();
                want("-");
                int a = -one();
                open--;
                return a;
            }
            if (token.equals("(")) {
                opens();
                want("(");
                int a = or();
                want(")");
                open--;
                return a;
            }
            if (!token.isEmpty() && sort(p) == 2 && token.length() <= 4) {
                p += token.length();
                return Integer.parseInt(token);
            }
            if (names.containsKey(token)) {
                p += token.length();
                return names.get(token);
            }
            throw new Fault(p);
        }
    }

    static class Man implements Cloneable {
        int kind, more, beard, oil, rank;
        boolean shorn;

        Man twin() {
            try {
                return (Man) clone();
            } catch (CloneNotSupportedException e) {
                throw new IllegalStateException(e);
            }
        }
    }

    static final class Vow implements Cloneable {
        int from, to, inches, due, plait = -1, state;

        Vow twin() {
            try {
                return (Vow) clone();
            } catch (CloneNotSupportedException e) {
                throw new IllegalStateException(e);
            }
        }
    }

    List<Man> men = new ArrayList<>();
    List<Vow> vows = new ArrayList<>();
    int week, law;
    List<String> texts = new ArrayList<>(List.of("grows 4 + oil ; trims 2 ; shames 10 ; "));
    StringBuilder tape = new StringBuilder();
    int[][] sheets = new int[4][];
    int[] sorts = new int[4];
    Model image;
    // told of weeks lived
    List<Integer> shorn = new ArrayList<>();
    List<Integer> shornIn = new ArrayList<>();
    int paid, shames, lived;

    Model thought() {
        Model t = new Model();
        for (Man m : men) {
            t.men.add(m.twin());
        }
        for (Vow v : vows) {
            t.vows.add(v.twin());
        }
        t.week = week;
        t.law = law;
        t.texts = texts;
        return t;
    }

    static boolean in(int v, int from, int to) {
        return from <= v && v <= to;
    }

    boolean noMan(int m) {
        return !in(m, 0, men.size() - 1);
    }

    boolean noVow(int v) {
        return !in(v, 0, vows.size() - 1);
    }

    int owed(int m) {
        return vows.stream().filter(v -> v.state == 0 && v.from == m).mapToInt(v -> v.inches).sum();
    }

    int says(int part, int m, int at) {
        return says(part, men.get(m), owed(m), at);
    }

    int says(int part, Man man, int owed, int at) {
        Map<String, Integer> names = new TreeMap<>();
        names.put("beard", man.beard);
        names.put("oil", man.oil);
        names.put("more", man.more);
        names.put("week", at);
        names.put("owed", owed);
        names.put("rank", man.rank);
        int says = new Reckoner(texts.get(law), names).all()[part];
        return says < 0 ? 0 : says > 99 ? 99 : says;
    }

    static int grows(int kind, int more, int week, int said) {
        if (kind == 1) {
            return said / 2;
        }
        if (kind == 2) {
            return week < 2 * more ? 0 : grows(0, more, week, said) + 1;
        }
        if (kind == 3) {
            return grows(1, more, week, said) + more / 3;
        }
        if (kind == 4) {
            return week % 4 == 3 ? 0 : grows(2, more, week, said) + 2;
        }
        if (kind == 5) {
            int inYear = week % 52;
            return inYear < 10 || inYear > 42 ? said / 3 : grows(0, more, week, said) + more / 2;
        }
        return said;
    }

    int counts(int m) {
        Man man = men.get(m);
        if (man.kind == 4) {
            return man.beard * (9 - man.more) / 10;
        }
        return man.kind == 1 || man.kind == 3 ? man.beard * 2 : man.beard;
    }

    int grace(int m) {
        return new int[] {0, 0, 1, 4, 1, 0}[men.get(m).kind];
    }

    int matures(int v) {
        int with = vows.get(v).plait;
        return with < 0 ? vows.get(v).due : Math.max(vows.get(v).due, vows.get(with).due);
    }

    void growAll() {
        for (int m = 0; m < men.size(); m++) {
            Man man = men.get(m);
            if (!man.shorn) {
                man.beard = Math.min(999, man.beard + grows(man.kind, man.more, week, says(0, m, week)));
            }
        }
    }

    void cut(int m, int inches) {
        Man man = men.get(m);
        man.beard = Math.max(0, man.beard - inches - says(1, m, week));
    }

    void liveWeek() {
        growAll();
        for (int v = 0; v < vows.size(); v++) {
            Vow vow = vows.get(v);
            if (vow.state != 0 || matures(v) > week) {
                continue;
            }
            if (counts(vow.from) >= vow.inches) {
                cut(vow.from, vow.inches);
                vow.state = 1;
                paid += vow.inches;
            } else if (week >= matures(v) + grace(vow.from)) {
                shames += says(2, vow.from, week);
                men.get(vow.from).shorn = true;
                men.get(vow.from).beard = 0;
                shorn.add(vow.from);
                shornIn.add(lived);
                vows.stream().filter(w -> w.from == vow.from && w.state == 0).forEach(w -> w.state = 2);
            }
        }
        week++;
        lived++;
    }

    // ---- the face

    int count(int what) {
        int[] all = {men.size(), vows.size(), week, texts.size(), law, tape.length()};
        return in(what, 0, 5) ? all[what] : -2;
    }

    int feed(int n, int a, int b, int c, int d, int e) {
        int[] all = {a, b, c, d, e};
        for (int x : all) {
            if (!in(x, 0, 255)) {
                return -2;
            }
        }
        if (!in(n, 1, 5)) {
            return -2;
        }
        if (tape.length() + n > 160) {
            return -4;
        }
        for (int i = 0; i < n; i++) {
            tape.append((char) all[i]);
        }
        return tape.length();
    }

    int text() {
        if (texts.size() == 6) {
            return -4;
        }
        String text = tape.toString();
        tape.setLength(0);
        Map<String, Integer> names = new TreeMap<>();
        for (String name : "beard oil more week owed rank".split(" ")) {
            names.put(name, 0);
        }
        try {
            new Reckoner(text, names).all();
        } catch (Fault fault) {
            return -100 - fault.place;
        }
        texts.add(text);
        return texts.size() - 1;
    }

    int force(int t) {
        if (!in(t, 0, texts.size() - 1)) {
            return -2;
        }
        int was = law;
        law = t;
        return was;
    }

    int asks(int part, int m, int at) {
        return !in(part, 0, 2) || noMan(m) || !in(at, 0, 999) ? -2 : says(part, m, at);
    }

    int man(int kind, int more, int inches) {
        if (!in(kind, 0, 5) || !in(more, 0, 9) || !in(inches, 0, 999)) {
            return -2;
        }
        if (men.size() == 6) {
            return -4;
        }
        Man man = new Man();
        man.kind = kind;
        man.more = more;
        man.beard = inches;
        men.add(man);
        return men.size() - 1;
    }

    int set(int m, int what, int v) {
        if (noMan(m)) {
            return -5;
        }
        if (!in(what, 0, 2) || !in(v, 0, what == 0 ? 999 : 9)) {
            return -7;
        }
        int was = told(m, what + 2);
        Man man = men.get(m);
        if (what == 0) {
            man.beard = v;
        }
        if (what == 1) {
            man.oil = v;
        }
        if (what == 2) {
            man.rank = v;
        }
        return was;
    }

    int told(int m, int what) {
        if (noMan(m)) {
            return -5;
        }
        Man man = men.get(m);
        int[] all = {man.kind, man.more, man.beard, man.oil, man.rank, man.shorn ? 1 : 0, counts(m), grace(m), owed(m)};
        return in(what, 0, 8) ? all[what] : -7;
    }

    int vow(int fromTo, int much, int at) {
        if (fromTo < 0 || noMan(fromTo / 10) || noMan(fromTo % 10) || fromTo % 11 == 0) {
            return -2;
        }
        if (!in(much, 1, 200) || !in(at, 0, 999)) {
            return -2;
        }
        if (men.get(fromTo / 10).shorn || at < week) {
            return -3;
        }
        if (vows.size() == 8) {
            return -4;
        }
        Vow vow = new Vow();
        vow.from = fromTo / 10;
        vow.to = fromTo % 10;
        vow.inches = much;
        vow.due = at;
        vows.add(vow);
        return vows.size() - 1;
    }

    int bond(int v, int what) {
        if (noVow(v)) {
            return -6;
        }
        Vow w = vows.get(v);
        int[] all = {w.from, w.to, w.inches, w.due, w.plait, w.state, matures(v)};
        return in(what, 0, 6) ? all[what] : -7;
    }

    int plaits(int v, int w) {
        if (noVow(v) || noVow(w) || v == w) {
            return -6;
        }
        Vow a = vows.get(v);
        Vow b = vows.get(w);
        if (a.state != 0 || b.state != 0 || a.plait != -1 || b.plait != -1 || a.from != b.from) {
            return -3;
        }
        a.plait = w;
        b.plait = v;
        return matures(v);
    }

    int pass(int v, int m) {
        if (noVow(v)) {
            return -6;
        }
        Vow vow = vows.get(v);
        if (noMan(m) || m == vow.from) {
            return -5;
        }
        if (vow.state != 0) {
            return -3;
        }
        int was = vow.to;
        vow.to = m;
        return was;
    }

    int live() {
        if (week == 999) {
            return -4;
        }
        shorn.clear();
        liveWeek();
        return shorn.size();
    }

    int run(int n, int what) {
        if (!in(n, 0, 60)) {
            return -2;
        }
        boolean known = in(what, 0, 4) || in(what, 10, 9 + men.size()) || in(what, 20, 19 + vows.size());
        if (!known) {
            return -7;
        }
        Model t = thought();
        for (int i = 0; i < n; i++) {
            t.liveWeek();
        }
        if (what >= 20) {
            return t.vows.get(what - 20).state;
        }
        if (what >= 10) {
            return t.men.get(what - 10).beard;
        }
        int first = t.shorn.isEmpty() ? -1 : t.shorn.get(0);
        int firstIn = t.shorn.isEmpty() ? -1 : t.shornIn.get(0);
        return new int[] {t.shorn.size(), first, firstIn, t.paid, t.shames}[what];
    }

    int ripe(int m, int much) {
        if (noMan(m)) {
            return -5;
        }
        if (!in(much, 0, 1998)) {
            return -7;
        }
        Model t = thought();
        for (int i = 0; i < 60; i++) {
            t.growAll();
            t.week++;
            if (t.counts(m) >= much) {
                return i;
            }
        }
        return -1;
    }

    int soonest(int m, int much) {
        if (noMan(m)) {
            return -5;
        }
        if (!in(much, 1, 200)) {
            return -7;
        }
        return men.get(m).shorn ? -1 : ripe(m, much);
    }

    int take(int s, int m, int what) {
        if (!in(s, 0, 3)) {
            return -2;
        }
        if (sheets[s] == null) {
            return -11;
        }
        int[] offers = sheets[s];
        if (offers.length % 2 == 1 || offers.length > 12) {
            return -2;
        }
        for (int i = 0; i < offers.length; i++) {
            if (i % 2 == 0 ? !in(offers[i], 1, 200) : !in(offers[i], 0, 59)) {
                return -2;
            }
        }
        if (noMan(m)) {
            return -5;
        }
        if (!in(what, 0, 1)) {
            return -7;
        }
        int best = 0;
        int most = 0;
        for (int set = 0; set < 1 << offers.length / 2 && !men.get(m).shorn; set++) {
            int inches = takes(offers, set, m);
            if (inches > most) {
                most = inches;
                best = set;
            }
        }
        return what == 0 ? best : most;
    }

    /** The inches of the set, -1: he can't take it. */
    private int takes(int[] offers, int set, int m) {
        Model t = thought();
        int inches = 0;
        for (int w = 0; w < 60; w++) {
            t.growAll();
            for (int i = 0; 2 * i < offers.length; i++) {
                if ((set & 1 << i) != 0 && offers[2 * i + 1] == w) {
                    if (t.counts(m) < offers[2 * i]) {
                        return -1;
                    }
                    t.cut(m, offers[2 * i]);
                    inches += offers[2 * i];
                }
            }
            t.week++;
        }
        return inches;
    }

    /** All rings, as the rows of their vows, the first ones first. */
    private void rings(List<Integer> row, List<List<Integer>> all) {
        for (int v = 0; v < vows.size(); v++) {
            Vow vow = vows.get(v);
            if (vow.state != 0 || !row.isEmpty() && vows.get(row.get(row.size() - 1)).to != vow.from) {
                continue;
            }
            if (row.stream().anyMatch(w -> vows.get(w).from == vow.from)) {
                continue;
            }
            List<Integer> longer = new ArrayList<>(row);
            longer.add(v);
            if (vows.get(longer.get(0)).from == vow.to) {
                all.add(longer);
            }
            rings(longer, all);
        }
    }

    private List<Integer> ring() {
        List<List<Integer>> all = new ArrayList<>();
        rings(new ArrayList<>(), all);
        return all.isEmpty() ? List.of() : all.get(0);
    }

    private int least(List<Integer> ring) {
        return ring.stream().mapToInt(v -> vows.get(v).inches).min().orElse(0);
    }

    int ring(int what) {
        if (!in(what, 0, 1)) {
            return -2;
        }
        return what == 1 ? least(ring()) : ring().stream().mapToInt(v -> 1 << v).sum();
    }

    int clear() {
        int less = 0;
        for (List<Integer> ring = ring(); !ring.isEmpty(); ring = ring()) {
            int least = least(ring);
            for (int v : ring) {
                Vow vow = vows.get(v);
                vow.inches -= least;
                less += least;
                if (vow.inches == 0) {
                    vow.state = 3;
                    vow.plait = -1;
                    vows.stream().filter(w -> w.plait == v).forEach(w -> w.plait = -1);
                }
            }
        }
        return less;
    }

    int net(int m) {
        if (noMan(m)) {
            return -1000005;
        }
        return vows.stream().filter(v -> v.state == 0)
            .mapToInt(v -> v.to == m ? v.inches : v.from == m ? -v.inches : 0).sum();
    }

    int falls(int first, int what) {
        if (!in(first, 0, (1 << men.size()) - 1) || !in(what, 0, 1)) {
            return -2;
        }
        int fallen = first;
        for (int step = 0;; step++) {
            int ahead = fallen;
            for (int m = 0; m < men.size(); m++) {
                int him = m;
                int has = counts(m) + vows.stream()
                    .filter(v -> v.state == 0 && v.to == him && (ahead >> v.from & 1) == 0)
                    .mapToInt(v -> v.inches).sum();
                if (has < owed(m)) {
                    fallen |= 1 << m;
                }
            }
            if (fallen == ahead) {
                return what == 0 ? fallen : step;
            }
        }
    }

    int pillar(int what) {
        if (!in(what, 0, 1)) {
            return -2;
        }
        int best = -1;
        for (int m = men.size() - 1; m >= 0; m--) {
            if (best < 0 || Integer.bitCount(falls(1 << m, 0)) >= Integer.bitCount(falls(1 << best, 0))) {
                best = m;
            }
        }
        return what == 0 || best < 0 ? best : Integer.bitCount(falls(1 << best, 0));
    }

    int day(int goal, int what) {
        if (!in(goal, 0, 1) || !in(what, 0, 1)) {
            return -2;
        }
        int all = 0;
        for (Man man : men) {
            all += man.shorn ? 0 : 1;
        }
        int best = 0;
        int least = Integer.MAX_VALUE;
        for (int order = 0; order <= 666666; order++) {
            String digits = all == 0 ? "" : String.valueOf(order);
            if (digits.length() > all) {
                break;
            }
            if (digits.length() < all || digits.chars().distinct().count() < all || digits.matches(".*[0789].*")) {
                continue;
            }
            int waits = waits(digits, goal);
            if (waits >= 0 && waits < least) {
                least = waits;
                best = order;
            }
        }
        return what == 0 ? least : best;
    }

    private int waits(String digits, int goal) {
        int clock = 0;
        int waits = 0;
        for (char digit : digits.toCharArray()) {
            int m = digit - '1';
            if (noMan(m) || men.get(m).shorn) {
                return -1;
            }
            waits += clock * (goal == 0 ? 1 : men.get(m).rank);
            clock += says(1, m, week) + 1;
        }
        return waits;
    }

    private int refusal(int s, int m) {
        if (!in(s, 0, 3)) {
            return -2;
        }
        return sheets[s] == null ? -11 : noMan(m) ? -5 : 0;
    }

    /** The beard of a man behind one, two, .. weeks' growing. */
    private int[] clipping(int m, int n) {
        Model t = thought();
        int[] beards = new int[n];
        for (int i = 0; i < n; i++) {
            t.growAll();
            t.week++;
            beards[i] = t.men.get(m).beard;
        }
        return beards;
    }

    int judge(int s, int m) {
        if (refusal(s, m) != 0) {
            return refusal(s, m);
        }
        return java.util.Arrays.mismatch(clipping(m, sheets[s].length), sheets[s]);
    }

    int kinds(int s, int m, int sort) {
        if (refusal(s, m) != 0) {
            return refusal(s, m);
        }
        if (!in(sort, 0, 2)) {
            return -7;
        }
        int bits = 0;
        for (int v = 0; v < (sort == 0 ? 6 : 10); v++) {
            Model t = thought();
            t.sheets = sheets;
            Man man = t.men.get(m);
            man.kind = sort == 0 ? v : man.kind;
            man.more = sort == 1 ? v : man.more;
            man.oil = sort == 2 ? v : man.oil;
            bits |= t.judge(s, m) == -1 ? 1 << v : 0;
        }
        return bits;
    }

    long since(int s, int m) {
        if (refusal(s, m) != 0) {
            return BeardsAreBonds.NO;
        }
        long bits = 0;
        for (int w = 0; w < 52; w++) {
            Model t = thought();
            t.sheets = sheets;
            t.week = w;
            bits |= t.judge(s, m) == -1 ? 1L << w : 0;
        }
        return bits;
    }

    int laws(int s, int m) {
        if (refusal(s, m) != 0) {
            return refusal(s, m);
        }
        int bits = 0;
        for (int text = 0; text < texts.size(); text++) {
            Model t = thought();
            t.sheets = sheets;
            t.law = text;
            bits |= t.judge(s, m) == -1 ? 1 << text : 0;
        }
        return bits;
    }

    int whose(int s) {
        if (!in(s, 0, 3) || sheets[s] == null) {
            return !in(s, 0, 3) ? -2 : -11;
        }
        int bits = 0;
        for (int m = 0; m < men.size(); m++) {
            bits |= judge(s, m) == -1 ? 1 << m : 0;
        }
        return bits;
    }

    int film(int s, int m, int n) {
        if (!in(s, 0, 3)) {
            return -2;
        }
        if (noMan(m)) {
            return -5;
        }
        if (!in(n, 0, 40)) {
            return -7;
        }
        sheets[s] = clipping(m, n);
        sorts[s] = 1;
        return n;
    }

    private Model season(long seed, int n) {
        Model t = thought();
        long lot = seed + 1;
        for (int i = 0; i < n; i++) {
            for (Man man : t.men) {
                lot = lot * 48271 % 2147483647;
                man.oil = (int) (lot % 10);
            }
            t.liveWeek();
        }
        return t;
    }

    int drawn(int seed, int n, int what) {
        if (!in(seed, 0, 99999) || !in(n, 0, 60) || !in(what, 0, 2)) {
            return -2;
        }
        Model t = season(seed, n);
        return new int[] {t.shorn.size(), t.paid, t.shames}[what];
    }

    long odds(int seed, int seeds, int n, int part) {
        if (!in(seed, 0, 99999) || !in(seeds, 1, 20) || !in(n, 0, 60) || !in(part, 0, 1)) {
            return BeardsAreBonds.NO;
        }
        int above = 0;
        for (int i = 0; i < seeds; i++) {
            above += season(seed + i, n).shorn.isEmpty() ? 1 : 0;
        }
        for (int below = 1; below <= seeds; below++) {
            if (above * below % seeds == 0) {
                return part == 0 ? above * below / seeds : below;
            }
        }
        throw new IllegalStateException();
    }

    int image() {
        image = thought();
        return men.size();
    }

    int back() {
        if (image == null) {
            return -3;
        }
        Model t = image.thought();
        men = t.men;
        vows = t.vows;
        week = t.week;
        law = t.law;
        return men.size();
    }

    int sheet(int s, int sort, int n) {
        if (!in(s, 0, 3) || !in(sort, -1, 2) || sort != -1 && n > 40) {
            return -2;
        }
        if (sort != -1 && n < 0) {
            return -14;
        }
        sheets[s] = sort == -1 ? null : new int[n];
        sorts[s] = sort;
        return 1;
    }

    int cell(int s, int i, int v) {
        if (!in(s, 0, 3)) {
            return -2;
        }
        if (sheets[s] == null) {
            return -11;
        }
        if (!in(i, 0, sheets[s].length - 1)) {
            return -12;
        }
        sheets[s][i] = sorts[s] == 0 ? (byte) v : sorts[s] == 1 ? (short) v : v;
        return 1;
    }

    int copy(int s, int i, int other, int j, int n) {
        if (!in(s, 0, 3) || !in(other, 0, 3)) {
            return -2;
        }
        if (sheets[s] == null || sheets[other] == null) {
            return -11;
        }
        if (sorts[s] != sorts[other]) {
            return -13;
        }
        if (n < 0 || i < 0 || j < 0 || (long) i + n > sheets[s].length || (long) j + n > sheets[other].length) {
            return -12;
        }
        int[] was = sheets[s].clone();
        for (int k = 0; k < n; k++) {
            sheets[other][j + k] = was[i + k];
        }
        return n;
    }

    int menBy(int s, int sort, int at, int n) {
        if (!in(s, 0, 3) || !in(sort, 0, 2) || !in(n, 0, 6)) {
            return -2;
        }
        if (sheets[s] == null) {
            return -11;
        }
        if (sorts[s] != sort) {
            return -13;
        }
        int came = 0;
        for (int k = 0; k < n; k++) {
            long place = at + 3L * k;
            if (place < 0 || place + 2 >= sheets[s].length) {
                return -12;
            }
            int p = (int) place;
            came += man(sheets[s][p], sheets[s][p + 1], sheets[s][p + 2]) >= 0 ? 1 : 0;
        }
        return came;
    }

    int taken(int i, int kind) {
        if (!in(kind, 0, 6)) {
            return -2;
        }
        if (!in(i, 0, 13)) {
            return -12;
        }
        if (i < 6 ? noMan(i) : noVow(i - 6)) {
            return -11;
        }
        if (i > 5 || kind == 6) {
            return i > 5 && kind == 6 ? vows.get(i - 6).inches : -13;
        }
        String lines = "0 10 20 310 420 50";
        return lines.split(" ")[men.get(i).kind].indexOf('0' + kind) >= 0 ? i : -13;
    }
}
