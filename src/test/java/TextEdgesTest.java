/** The edges of the tape, its tokens, its texts and what they say. */
public final class TextEdgesTest {
    private static final Check check = new Check("TextEdgesTest");
    private static final String ALL_TOKENS = "grows trims shames or and not beard oil more week owed rank 12 ( ) ; + - * < =";
    private static final String FIRST = "not ( - 12 beard oil more week owed rank";
    private static final String ONE = "( - 12 beard oil more week owed rank";
    private static final String LEAF = "12 beard oil more week owed rank";
    private static final String NEXT = "or and < = + - * ";
    private static final String NEXT_COMPARED = "or and + - * ";
    private static final String MINIMUM = "256*256*256*128";

    public static void main(String[] args) {
        tapeSize();
        feedCounts();
        everyByte();
        words();
        numbers();
        blanks();
        endsTooEarly();
        whatCanStand();
        whatCanStandWithFiveOpen();
        sixTexts();
        textNull();
        wrapping();
        truth();
        bounds();
        names();
        weeks();
        check.end();
    }

    private static int read(String text) {
        return Check.text(new BeardsAreBonds(), text);
    }

    private static void fault(String text, int place) {
        check.due("fault of [" + text + "]", read(text), -100 - place);
    }

    private static void stands(String text) {
        check.due("[" + text + "] is a text", read(text), 1);
    }

    /** 160 bytes at most: all have room or none comes. */
    private static void tapeSize() {
        for (int n = 1; n <= 5; n++) {
            BeardsAreBonds x = new BeardsAreBonds();
            for (int i = 0; i < 160 - n; i++) {
                x.feed(1, 32, 0, 0, 0, 0);
            }
            if (n < 5) {
                check.due("feed: one more than have room", x.feed(n + 1, 1, 1, 1, 1, 1), -4);
                check.due("none came", x.count(5), 160 - n);
            }
            check.due("feed: as many as have room", x.feed(n, 1, 1, 1, 1, 1), 160);
            check.due("feed: full", x.feed(1, 1, 1, 1, 1, 1), -4);
            check.due("text: the first of those that came last", x.text(), -100 - (160 - n));
            check.due("feed: there is room again", x.feed(5, 1, 1, 1, 1, 1), 5);
        }
        String spare = " ".repeat(160 - "grows 1;trims 2;shames 3;".length());
        stands("grows 1;trims 2;shames 3;" + spare);
        stands(spare + "grows 1;trims 2;shames 3;");
        stands("grows 1;" + spare + "trims 2;shames 3;");
        fault("grows 1;trims 2;shames 3" + spare + " ", 160);
        fault("grows 1;trims 2;shames 3" + spare + "?", 159);
    }

    /** The first n of the five, in their order: a byte that begins no token is found where it came. */
    private static void feedCounts() {
        for (int n = 1; n <= 5; n++) {
            for (int k = 0; k < 5; k++) {
                int[] b = {32, 32, 32, 32, 32};
                b[k] = '?';
                BeardsAreBonds x = new BeardsAreBonds();
                check.due("feed of " + n, x.feed(n, b[0], b[1], b[2], b[3], b[4]), n);
                check.due("feed of " + n + ", again", x.feed(n, 32, 32, 32, 32, 32), 2 * n);
                check.due("place of byte " + k + " of " + n, x.text(), -100 - (k < n ? k : 2 * n));
            }
        }
    }

    /** Each byte ahead of all, behind a number, behind all, between two names. */
    private static void everyByte() {
        for (int b = 0; b < 256; b++) {
            boolean blank = b == 32 || b == 10;
            boolean letter = b >= 'a' && b <= 'z';
            boolean digit = b >= '0' && b <= '9';
            String sign = String.valueOf((char) b);
            String call = "byte " + b;
            check.due(call + " ahead", read(sign + "grows 1;trims 1;shames 1;"), blank ? 1 : -100);
            int between = -107;
            if (blank || digit) {
                between = 1;
            } else if ("+-*<=;".contains(sign)) {
                between = -108;
            }
            check.due(call + " behind a number", read("grows 1" + sign + ";trims 1;shames 1;"), between);
            check.due(call + " behind all", read("grows 1;trims 1;shames 1;" + sign), blank ? 1 : -125);
            // oil?oil: two names with what stands between them, or one word
            int two = "+-*<=".contains(sign) ? 1 : -109;
            if (letter) {
                two = -106;
            } else if (blank || b == ';') {
                two = -110;
            }
            check.due(call + " between names", read("grows oil" + sign + "oil;trims 1;shames 1;"), two);
        }
    }

    /** Words are as long as can be, and a word is a KEY or a NAME, or none. */
    private static void words() {
        String[] names = {"beard", "oil", "more", "week", "owed", "rank"};
        for (String name : names) {
            stands("grows " + name + ";trims " + name + ";shames " + name + ";");
            stands("grows " + name + "+1;trims 1;shames 1;");
            fault("grows 1+" + name + "s;trims 1;shames 1;", 8);
            fault("grows 1+x" + name + ";trims 1;shames 1;", 8);
            fault("grows 1+" + name.substring(1) + ";trims 1;shames 1;", 8);
            fault("grows 1+" + name.substring(0, name.length() - 1) + ";trims 1;shames 1;", 8);
            fault("grows 1+" + name.toUpperCase() + ";trims 1;shames 1;", 8);
            fault("grows 1+" + name + name + ";trims 1;shames 1;", 8);
            fault("grows 1+" + name + " " + name + ";trims 1;shames 1;", 9 + name.length());
            fault("grows 1+" + name + "1;trims 1;shames 1;", 8 + name.length());
            fault("grows 1+1" + name + ";trims 1;shames 1;", 9);
        }
        String[] keys = {"grows", "trims", "shames"};
        for (int part = 0; part < 3; part++) {
            String ahead = part == 0 ? "" : part == 1 ? "grows 1;" : "grows 1;trims 1;";
            fault(ahead + keys[part] + "s 1;", ahead.length());
            fault(ahead + keys[part].substring(1) + " 1;", ahead.length());
            fault(ahead + keys[part].substring(0, 4) + " 1;", ahead.length());
            fault(ahead + keys[part] + "not 1;", ahead.length());
            fault(ahead + keys[(part + 1) % 3] + " 1;", ahead.length());
            fault(ahead + keys[(part + 2) % 3] + " 1;", ahead.length());
            stands(ahead + keys[part] + "(1);" + "grows 1;trims 1;shames 1;".substring(ahead.length() + keys[part].length() + 3));
        }
        fault("grows nor 1;", 6);
        fault("grows no 1;", 6);
        fault("grows notbeard;", 6);
        fault("grows 1 o 1;", 8);
        fault("grows 1 ory 1;", 8);
        fault("grows 1 an 1;", 8);
        fault("grows 1 andy 1;", 8);
        stands("grows 1or 1and not(1);trims 1;shames 1;");
    }

    /** Numbers are as long as can be; more than four digits are too long, whatever they are. */
    private static void numbers() {
        String[] right = {"0", "9", "00", "99", "000", "999", "0000", "9999", "0009"};
        for (String number : right) {
            stands("grows " + number + ";trims " + number + ";shames " + number + ";");
        }
        String[] wrong = {"00000", "00001", "10000", "99999", "2147483648", "99999999999999999999", "00000000000000000000"};
        for (String number : wrong) {
            fault("grows " + number + ";trims 1;shames 1;", 6);
            fault("grows 1+(" + number + ");trims 1;shames 1;", 9);
            fault("grows 1;trims 1;shames 1;" + number, 25);
        }
        fault("grows 1234 5;", 11);
        stands("grows 1234+5678;trims 1;shames 1;");
        fault("grows 1234+56789;", 11);
    }

    /** 32 and 10 may stand between tokens, as many as can be, or none. */
    private static void blanks() {
        stands("grows(1)<2or not-3;trims(1);shames(1);");
        stands("\n\n  grows\n1\n+\n 1 \n;\n trims\n(\n1\n)\n;\nshames\n- 1\n;\n\n");
        fault("gr ows 1;", 0);
        fault("grows 1\r;", 7);
        fault("grows 1\t;", 7);
        fault("grows 1" + (char) 11 + ";", 7);
        fault("grows 1" + (char) 31 + ";", 7);
        fault("grows 1" + (char) 33 + ";", 7);
        fault("grows 1" + (char) 160 + ";", 7);
        fault("", 0);
        for (int n = 1; n < 8; n++) {
            fault(" ".repeat(n), n);
            fault("\n".repeat(n), n);
            fault("grows 1" + " ".repeat(n), 7 + n);
            fault(" ".repeat(n) + "?", n);
        }
    }

    /** Each text that is cut: the fault is at its size, or at the word that is cut, if that is none. */
    private static void endsTooEarly() {
        String text = "grows not (beard+oil*2) < -37 and 1 or week=0;\ntrims owed*rank;\nshames more-1;";
        stands(text);
        for (int size = 0; size < text.length(); size++) {
            String cut = text.substring(0, size);
            int begin = size;
            while (begin > 0 && Character.isLetter(cut.charAt(begin - 1))) {
                begin--;
            }
            boolean word = " grows not beard oil and or week trims owed rank shames more ".contains(" " + cut.substring(begin) + " ");
            fault(cut, word || begin == size ? size : begin);
        }
    }

    /** Behind what is there, just these tokens can stand: any other one is the fault. */
    private static void follow(String ahead, String canStand) {
        String allowed = " " + canStand + " ";
        for (String token : ALL_TOKENS.split(" ")) {
            int answer = read(ahead + " " + token);
            boolean isFault = answer == -100 - (ahead.length() + 1);
            boolean due = !allowed.contains(" " + token + " ");
            check.due("[" + token + "] behind [" + ahead + "] is the fault", isFault ? 1 : 0, due ? 1 : 0);
        }
    }

    private static void whatCanStand() {
        follow("", "grows");
        follow("grows", FIRST);
        follow("grows 1", NEXT + ";");
        follow("grows oil", NEXT + ";");
        follow("grows (1)", NEXT + ";");
        follow("grows -1", NEXT + ";");
        follow("grows not 1", NEXT + ";");
        follow("grows not (1)", NEXT + ";");
        follow("grows (1", NEXT + ")");
        follow("grows ((1)", NEXT + ")");
        follow("grows (not 1", NEXT + ")");
        follow("grows 1 <", ONE);
        follow("grows 1 =", ONE);
        follow("grows not 1 <", ONE);
        follow("grows 1 < 2", NEXT_COMPARED + ";");
        follow("grows 1 = 2", NEXT_COMPARED + ";");
        follow("grows not 1 < 2", NEXT_COMPARED + ";");
        follow("grows 1 < 2 + 3 * 4", NEXT_COMPARED + ";");
        follow("grows (1 = 2", NEXT_COMPARED + ")");
        follow("grows (1 = 2)", NEXT + ";");
        follow("grows 1 < 2 and 3", NEXT + ";");
        follow("grows 1 < 2 or 3", NEXT + ";");
        follow("grows 1 < (2", NEXT + ")");
        follow("grows 1 < (2)", NEXT_COMPARED + ";");
        follow("grows 1 +", ONE);
        follow("grows 1 -", ONE);
        follow("grows 1 *", ONE);
        follow("grows -", ONE);
        follow("grows 1 - -", ONE);
        follow("grows not", FIRST);
        follow("grows not not", FIRST);
        follow("grows 1 or", FIRST);
        follow("grows 1 and", FIRST);
        follow("grows (", FIRST);
        follow("grows -(", FIRST);
        follow("grows 1 * (", FIRST);
        follow("grows 1 ;", "trims");
        follow("grows 1 ; trims", FIRST);
        follow("grows 1 ; trims 1", NEXT + ";");
        follow("grows 1 ; trims 1 ;", "shames");
        follow("grows 1 ; trims 1 ; shames", FIRST);
        follow("grows 1 ; trims 1 ; shames 1", NEXT + ";");
        follow("grows 1 ; trims 1 ; shames 1 ;", "");
    }

    /** A ( is open till its ) , not and - till what they belong to ends. */
    private static void whatCanStandWithFiveOpen() {
        String[] four = {"((((", "----", "not not not not", "(-(-", "not(not(", "-(((", "not not - -", "not not - ("};
        for (String open : four) {
            boolean canNot = !open.endsWith("-");
            follow("grows " + open, canNot ? FIRST : ONE);
            follow("grows " + open + "-", LEAF);
            follow("grows " + open + "(", LEAF);
            if (canNot) {
                follow("grows " + open + " not", LEAF);
            }
        }
        follow("grows not(-(not", LEAF);
        follow("grows not(-(not 1", NEXT + ")");
        follow("grows not(-(not 1)", NEXT + ")");
        follow("grows not(-(not 1))", NEXT + ";");
        // a ( is open till its )
        follow("grows (((((1", NEXT + ")");
        follow("grows (((((1 +", LEAF);
        follow("grows (((((1 or", LEAF);
        follow("grows (((((1 <", LEAF);
        follow("grows (((((1)", NEXT + ")");
        follow("grows (((((1) +", ONE);
        follow("grows (((((1) or", FIRST);
        follow("grows (((((1)))))", NEXT + ";");
        follow("grows (((((1))))) and", FIRST);
        // a - till its ONE ends
        follow("grows -----1", NEXT + ";");
        follow("grows -----1 *", ONE);
        follow("grows -----1 -", ONE);
        follow("grows -----1 <", ONE);
        follow("grows -----1 or", FIRST);
        follow("grows -----1 - ----", ONE);
        follow("grows -----1 - -----", LEAF);
        // a not till its NOT ends: sums, products and what is compared belong to it
        follow("grows not not not not not 1", NEXT + ";");
        follow("grows not not not not not 1 +", LEAF);
        follow("grows not not not not not 1 *", LEAF);
        follow("grows not not not not not 1 <", LEAF);
        follow("grows not not not not not 1 < 2", NEXT_COMPARED + ";");
        follow("grows not not not not not 1 < 2 -", LEAF);
        follow("grows not not not not not 1 and", FIRST);
        follow("grows not not not not not 1 or", FIRST);
        follow("grows not not not not not 1 < 2 and", FIRST);
        // the next part begins anew
        follow("grows (((((1))))) ; trims ((((", FIRST);
        follow("grows not not not not not 1 ; trims not not not not not", LEAF);
    }

    /** Six at most, text 0 among them; a text refused for want of room stays on the tape. */
    private static void sixTexts() {
        BeardsAreBonds x = new BeardsAreBonds();
        for (int t = 1; t <= 5; t++) {
            check.due("a fault takes no number", Check.text(x, "grows"), -105);
            check.due("the tape is empty by it", x.count(5), 0);
            check.due("texts ahead of it", x.count(3), t);
            check.due("text " + t, Check.text(x, "grows 1;trims 1;shames 1;"), t);
            check.due("the tape is empty", x.count(5), 0);
            check.due("texts", x.count(3), t + 1);
            check.due("force: the next one is none", x.force(t + 1), -2);
        }
        check.due("text: FULL with an empty tape", x.text(), -4);
        check.due("text: FULL with a right one", Check.text(x, "grows 1;trims 1;shames 1;"), -4);
        check.due("the tape stays", x.count(5), 25);
        check.due("text: FULL again", x.text(), -4);
        check.due("six", x.count(3), 6);
        for (int t = 5; t >= 0; t--) {
            check.due("force(" + t + ")", x.force(t), t == 5 ? 0 : t + 1);
        }
    }

    /** Text 0 is there at first, and is the law. */
    private static void textNull() {
        BeardsAreBonds x = new BeardsAreBonds();
        x.man(0, 9, 999);
        for (int oil = 0; oil <= 9; oil++) {
            x.set(0, 1, oil);
            check.due("grows 4 + oil", x.asks(0, 0, 999), 4 + oil);
            check.due("trims 2", x.asks(1, 0, 999), 2);
            check.due("shames 10", x.asks(2, 0, 999), 10);
        }
    }

    private static void says(String expression, int want) {
        BeardsAreBonds x = new BeardsAreBonds();
        x.man(0, 0, 0);
        int t = Check.text(x, "grows " + expression + ";trims " + expression + ";shames 0;");
        x.force(t);
        check.due("[" + expression + "]", x.asks(0, 0, 0), want);
        check.due("[" + expression + "]", x.asks(1, 0, 0), want);
    }

    /** An int of 32 bits: the greatest one and 1 is the least one. */
    private static void wrapping() {
        says(MINIMUM + "<0", 1);
        says("0<" + MINIMUM + "-1", 1);
        says(MINIMUM + "-1+1<0", 1);
        says("-(" + MINIMUM + ")<0", 1);
        says("-(" + MINIMUM + ")=" + MINIMUM, 1);
        says("-(" + MINIMUM + "-1)<0", 1);
        says("-(" + MINIMUM + "+1)<0", 0);
        says("0-(" + MINIMUM + ")<0", 1);
        says(MINIMUM + "*2", 0);
        says("not " + MINIMUM + "*2", 1);
        says("(" + MINIMUM + "-1)*2+7", 5);
        says(MINIMUM + "+" + MINIMUM + "+9", 9);
        says("9268*5*9268*5<0", 0);
        says("(9268*5+1)*(9268*5+1)<0", 1);
        says("0-1-(" + MINIMUM + "-1)=" + MINIMUM, 1);
    }

    /** 1 or 0; what is not 0 is true. */
    private static void truth() {
        int[] numbers = {-2, -1, 0, 1, 2};
        for (int a : numbers) {
            says("not " + a, a == 0 ? 1 : 0);
            says("not not " + a, a == 0 ? 0 : 1);
            for (int b : numbers) {
                says(a + " or " + b, a != 0 || b != 0 ? 1 : 0);
                says(a + " and " + b, a != 0 && b != 0 ? 1 : 0);
                says(a + " < " + b, a < b ? 1 : 0);
                says(a + " = " + b, a == b ? 1 : 0);
                says("(" + a + " < " + b + ") * 7 + (" + a + " = " + b + ")", a < b ? 7 : a == b ? 1 : 0);
            }
        }
    }

    /** 0 to 99, else the bound. */
    private static void bounds() {
        says("0", 0);
        says("1", 1);
        says("98", 98);
        says("99", 99);
        says("100", 99);
        says("9999", 99);
        says("-1", 0);
        says("-9999", 0);
        says("1-1", 0);
        says("0-1", 0);
        says(MINIMUM, 0);
        says(MINIMUM + "-1", 99);
        // the bound is that of the whole, not of what it is made of
        says("(0-5)+7", 2);
        says("200-150", 50);
    }

    /** Two men: all that the first one's names say is the least, all that the second one's say the greatest. */
    private static BeardsAreBonds leastAndMost() {
        BeardsAreBonds x = new BeardsAreBonds();
        x.man(0, 0, 0);
        x.man(0, 9, 999);
        x.set(1, 1, 9);
        x.set(1, 2, 9);
        for (int v = 0; v < 8; v++) {
            x.vow(10, 200, 999);
        }
        return x;
    }

    private static void names() {
        String[] names = {"beard", "oil", "more", "owed", "rank", "week"};
        int[] most = {999, 9, 9, 1600, 9, 999};
        for (int i = 0; i < names.length; i++) {
            BeardsAreBonds x = leastAndMost();
            Check.law(x, "grows " + names[i] + ";trims " + names[i] + "=" + most[i] + ";shames 1<" + names[i] + ";");
            check.due("least " + names[i], x.asks(0, 0, 0), 0);
            check.due("least " + names[i], x.asks(2, 0, 0), 0);
            check.due("most " + names[i], x.asks(0, 1, 999), Math.min(99, most[i]));
            check.due("most " + names[i], x.asks(1, 1, 999), 1);
        }
    }

    /** asks takes the week that is told, not THE WEEK. */
    private static void weeks() {
        BeardsAreBonds x = new BeardsAreBonds();
        x.man(0, 0, 0);
        x.live();
        x.live();
        Check.law(x, "grows week;trims week=999;shames week=0;");
        check.due("week 0", x.asks(0, 0, 0), 0);
        check.due("week 0", x.asks(2, 0, 0), 1);
        check.due("week 2", x.asks(0, 0, 2), 2);
        check.due("week 998", x.asks(1, 0, 998), 0);
        check.due("week 999", x.asks(1, 0, 999), 1);
        check.due("week 1000", x.asks(1, 0, 1000), -2);
        // in thought the weeks go on behind 999
        BeardsAreBonds y = new BeardsAreBonds();
        y.man(0, 0, 0);
        for (int w = 0; w < 999; w++) {
            y.live();
        }
        y.set(0, 0, 0);
        Check.law(y, "grows week-990;trims 0;shames 0;");
        check.due("weeks 999 to 1001", y.run(3, 10), 9 + 10 + 11);
        check.due("asks: week 999", y.asks(0, 0, 999), 9);
    }
}
