/** Promises 1 to 6: a new object, count, feed, text, force, asks. */
public final class LawTest {
    private static final Check check = new Check("LawTest");

    public static void main(String[] args) {
        newObject();
        counting();
        feeding();
        fullTexts();
        faults();
        missingOnes();
        fullTape();
        oldBytes();
        depths();
        forcing();
        asking();
        values();
        bounds();
        check.end();
    }

    private static void newObject() {
        BeardsAreBonds x = new BeardsAreBonds();
        int[] want = {0, 0, 0, 1, 0, 0};
        for (int what = 0; what < want.length; what++) {
            check.due("new: count(" + what + ")", x.count(what), want[what]);
        }
        check.due("new: told(0, 0)", x.told(0, 0), -5);
        check.due("new: bond(0, 0)", x.bond(0, 0), -6);
    }

    private static void counting() {
        BeardsAreBonds x = new BeardsAreBonds();
        check.due("count(-1)", x.count(-1), -2);
        check.due("count(6)", x.count(6), -2);
        x.man(0, 0, 0);
        x.man(0, 0, 0);
        x.vow(1, 1, 0);
        x.vow(1, 1, 0);
        x.vow(10, 1, 5);
        x.live();
        Check.law(x, "grows 1;trims 1;shames 1;");
        x.feed(3, 32, 32, 32, 0, 0);
        int[] want = {2, 3, 1, 2, 1, 3};
        for (int what = 0; what < want.length; what++) {
            check.due("count(" + what + ")", x.count(what), want[what]);
        }
        check.due("paid vows too: bond(0, 5)", x.bond(0, 5), 1);
    }

    private static void feeding() {
        BeardsAreBonds x = new BeardsAreBonds();
        check.due("feed(0,..)", x.feed(0, 1, 1, 1, 1, 1), -2);
        check.due("feed(6,..)", x.feed(6, 1, 1, 1, 1, 1), -2);
        for (int i = 0; i < 5; i++) {
            int[] b = {0, 255, 7, 9, 11};
            b[i] = 256;
            check.due("feed: 256 at " + i, x.feed(1, b[0], b[1], b[2], b[3], b[4]), -2);
            b[i] = -1;
            check.due("feed: -1 at " + i, x.feed(1, b[0], b[1], b[2], b[3], b[4]), -2);
        }
        check.due("none came", x.count(5), 0);
        int size = 0;
        for (int n = 1; n <= 5; n++) {
            size += n;
            check.due("feed(" + n + ",..)", x.feed(n, 0, 255, 0, 255, 0), size);
        }
        for (int i = 0; i < 28; i++) {
            x.feed(5, 32, 32, 32, 32, 32);
        }
        check.due("feed to 157", x.feed(2, 32, 32, 32, 32, 32), 157);
        check.due("feed: no room for four", x.feed(4, 32, 32, 32, 32, 32), -4);
        check.due("feed: none of the four came", x.count(5), 157);
        check.due("feed: BAD ahead of FULL", x.feed(4, 32, 32, 32, 32, 256), -2);
        check.due("feed to 160", x.feed(3, 32, 32, 32, 32, 32), 160);
        check.due("feed: no room for one", x.feed(1, 32, 32, 32, 32, 32), -4);
        check.due("a byte 0 begins no token", x.text(), -100);
        check.due("the tape is empty by a fault", x.count(5), 0);
    }

    private static void fullTexts() {
        BeardsAreBonds x = new BeardsAreBonds();
        for (int t = 1; t < 6; t++) {
            check.due("text " + t, Check.text(x, "grows " + t + ";trims 1;shames 1;"), t);
            check.due("the tape is empty", x.count(5), 0);
        }
        check.due("text: FULL", Check.text(x, "grows"), -4);
        check.due("then the tape stays", x.count(5), 5);
        check.due("TEXTS", x.count(3), 6);
    }

    private static void fault(String text, int place) {
        BeardsAreBonds x = new BeardsAreBonds();
        check.due("fault of [" + text + "]", Check.text(x, text), place < 0 ? 1 : -100 - place);
    }

    private static void faults() {
        fault("", 0);
        fault("  \n ", 4);
        fault("grows", 5);
        fault("grows 1", 7);
        fault("grows 1 ; ", 10);
        fault("grows 1;trims 1;shames 1", 24);
        fault("grows 1;trims 1;shames 1;", -1);
        fault("grows1;trims1;shames1;", -1);
        fault("\n grows 1 ; \n trims 1 ; shames 1 ; \n", -1);
        fault("grows 1;trims 1;shames 1; 2", 26);
        fault("grows 1;trims 1;shames 1;;", 25);
        fault("trims 1;", 0);
        fault("grows 1;grows 1;", 8);
        fault("grows 1;trims 1;trims 1;", 16);
        fault("growsbeard;", 0);
        fault("grows bear;", 6);
        fault("grows beards;", 6);
        fault("grows trims", 6);
        fault("grows ;", 6);
        fault("grows 9999;trims 0000;shames 1;", -1);
        fault("grows 10000;", 6);
        fault("grows 00001;", 6);
        fault("grows 12a;", 8);
        fault("grows 1 2;", 8);
        fault("grows Beard;", 6);
        fault("grows 1\t;", 7);
        fault("grows 1 ?", 8);
        fault("grows 1 + ", 10);
        fault("grows 1 + *", 10);
        fault("grows + 1;", 6);
        fault("grows 1 < 2 < 3;", 12);
        fault("grows 1 = 2 = 3;", 12);
        fault("grows (1 < 2) < 3;trims 1;shames 1;", -1);
        fault("grows 1 < not 2;", 10);
        fault("grows 1 + not 2;", 10);
        fault("grows not 1 < 2 and not not 2 or 3;trims 1;shames 1;", -1);
        fault("grows 1 or or 2;", 11);
        fault("grows or;", 6);
        fault("grows (1;", 8);
        fault("grows (1", 8);
        fault("grows 1);", 7);
        fault("grows ();", 7);
        fault("grows - - 1 * - 2 - - 3;trims 1;shames 1;", -1);
        fault("grows 1 not 2;", 8);
        fault("grows beard oil;", 12);
        fault("grows beard + oil * more - week < owed = rank;", 39);
        fault("grows beard + oil * more - week < owed + rank;trims 1;shames 1;", -1);
    }

    /** A sign whose one is missing: what stands there could else end the part. */
    private static void missingOnes() {
        String[] signs = {"or", "and", "<", "=", "+", "-", "*"};
        for (String sign : signs) {
            fault("grows 1 " + sign + ";trims 1;shames 1;", 8 + sign.length());
            fault("grows (1 " + sign + ");trims 1;shames 1;", 9 + sign.length());
        }
        fault("grows not;trims 1;shames 1;", 9);
        fault("grows (not);trims 1;shames 1;", 10);
        fault("grows -;trims 1;shames 1;", 7);
        fault("grows (-);trims 1;shames 1;", 8);
        fault("grows 1;trims 1;shames 1; ?", 26);
        fault("grows 1;trims 1;shames 1; words", 26);
        fault("grows 1;trims 1;shames 1; 12345", 26);
        fault("growsz 1;", 0);
        fault("grows zeek;", 6);
        fault("grows 1 xr 2;", 8);
        fault("trows 1;", 0);
        fault("grows 1{;", 7);
        fault("grows 1`;", 7);
        fault("grows 1/;", 7);
        fault("grows 1:;", 7);
    }

    private static void fullTape() {
        StringBuilder text = new StringBuilder("grows 0");
        while (text.length() < 137) {
            text.append("+1");
        }
        text.append(";trims 1;shames 1+1    ;");
        check.due("a text of 160 bytes", text.length(), 160 + 1);
        text.deleteCharAt(text.length() - 3);
        BeardsAreBonds x = new BeardsAreBonds();
        x.man(0, 0, 0);
        check.due("it is a text", Check.text(x, text.toString()), 1);
        x.force(1);
        check.due("its grows", x.asks(0, 0, 0), 65);
        check.due("its shames", x.asks(2, 0, 0), 2);
        text.setLength(159);
        fault(text + " ", 160);
        fault(";".repeat(160), 0);
        fault(" ".repeat(160), 160);
        fault("grows" + ";".repeat(155), 5);
        // 160 bytes, a token each behind the first one, till they end
        fault("grows1" + "+1".repeat(77), 160);
        fault("grows " + "1+".repeat(77), 160);
    }

    /** What has been on the tape ahead of a text is no part of a later one. */
    private static void oldBytes() {
        BeardsAreBonds x = new BeardsAreBonds();
        check.due("fault of growsbeard", Check.text(x, "growsbeard"), -100);
        check.due("fault of grows", Check.text(x, "grows"), -105);
        check.due("fault of grows 99999", Check.text(x, "grows 99999"), -106);
        check.due("fault of grows 99", Check.text(x, "grows 99"), -108);
    }

    private static void depths() {
        fault("grows (((((1)))));trims 1;shames 1;", -1);
        fault("grows ((((((1))))));", 11);
        fault("grows -----1;trims 1;shames 1;", -1);
        fault("grows ------1;", 11);
        fault("grows not not not not not 1;trims 1;shames 1;", -1);
        fault("grows not not not not not not 1;", 26);
        fault("grows -(-(-1));trims 1;shames 1;", -1);
        fault("grows -(-(-(1)));", 11);
        fault("grows not(-(not 1));trims 1;shames 1;", -1);
        fault("grows not(-(not(1)));", 15);
        fault("grows not(-(not -1));", 16);
        fault("grows not(-(not not 1));", 16);
        // what belongs to a sign ends it: these stand beside one another
        fault("grows -----1-----2--3;trims(((((1)))))*(((((2)))));shames 1;", -1);
        fault("grows -----1------2--3;trims 1;shames 1;", -1);
        fault("grows -----1-------2--3;", 18);
        fault("grows -----1 - 2 * -----3;trims(((((1)))))*(((((2)))));shames 1;", -1);
        fault("grows not not not not not 1 and not not not not not 2;trims 1;shames 1;", -1);
        fault("grows ((((1 - (2)))));trims 1;shames 1;", -1);
        // a minus between two ones is none of the five
        fault("grows (((((1-2)))));trims 1;shames 1;", -1);
        fault("grows (((((1--2)))));", 13);
        // a not holds what is compared in it
        fault("grows not 1 < ((((2))));trims 1;shames 1;", -1);
        fault("grows not 1 < (((((2)))));", 18);
    }

    private static void forcing() {
        BeardsAreBonds x = new BeardsAreBonds();
        check.due("force(-1)", x.force(-1), -2);
        check.due("force(1): no such text", x.force(1), -2);
        Check.text(x, "grows 1;trims 1;shames 1;");
        Check.text(x, "grows 2;trims 1;shames 1;");
        check.due("force(2)", x.force(2), 0);
        check.due("force(1)", x.force(1), 2);
        check.due("force(3)", x.force(3), -2);
        check.due("count(4)", x.count(4), 1);
        check.due("force(0)", x.force(0), 1);
    }

    private static void asking() {
        BeardsAreBonds x = new BeardsAreBonds();
        check.due("asks: no man", x.asks(0, 0, 0), -2);
        x.man(0, 3, 77);
        x.man(0, 0, 5);
        x.set(0, 1, 6);
        x.set(0, 2, 8);
        x.vow(1, 11, 3);
        x.vow(1, 12, 4);
        check.due("text 0 grows", x.asks(0, 0, 0), 10);
        check.due("text 0 trims", x.asks(1, 0, 0), 2);
        check.due("text 0 shames", x.asks(2, 0, 0), 10);
        check.due("asks: part -1", x.asks(-1, 0, 0), -2);
        check.due("asks: part 3", x.asks(3, 0, 0), -2);
        check.due("asks: man -1", x.asks(0, -1, 0), -2);
        check.due("asks: man 2", x.asks(0, 2, 0), -2);
        check.due("asks: week -1", x.asks(0, 0, -1), -2);
        check.due("asks: week 1000", x.asks(0, 0, 1000), -2);
        Check.law(x, "grows beard;trims oil*10+more;shames owed+rank;");
        check.due("beard", x.asks(0, 0, 0), 77);
        check.due("oil, more", x.asks(1, 0, 0), 63);
        check.due("owed, rank", x.asks(2, 0, 0), 31);
        check.due("of another", x.asks(2, 1, 0), 0);
        Check.law(x, "grows week;trims week-990;shames 0-5;");
        check.due("week 42", x.asks(0, 0, 42), 42);
        check.due("week 999", x.asks(1, 0, 999), 9);
        check.due("below 0", x.asks(2, 0, 999), 0);
        check.due("above 99", x.asks(0, 0, 100), 99);
    }

    private static void value(String grows, int want) {
        BeardsAreBonds x = new BeardsAreBonds();
        x.man(0, 7, 20);
        Check.law(x, "grows " + grows + ";trims 0;shames 0;");
        check.due("value of [" + grows + "]", x.asks(0, 0, 13), want);
    }

    private static void values() {
        value("2+3*4", 14);
        value("(2+3)*4", 20);
        value("9-3-2", 4);
        value("9-(3-2)", 8);
        value("50- -3", 53);
        value("- -3*- -4", 12);
        value("-3+10", 7);
        value("3 or 0", 1);
        value("0 or 0", 0);
        value("0 or 7", 1);
        value("3 and 2", 1);
        value("3 and 0", 0);
        value("0 and 3", 0);
        value("1 or 1 and 0", 1);
        value("(1 or 1) and 0", 0);
        value("not 0", 1);
        value("not 5", 0);
        value("not not 5", 1);
        value("not 1 < 0", 1);
        value("(not 1) < 0", 0);
        value("not -1", 0);
        value("2<3", 1);
        value("3<3", 0);
        value("4<3", 0);
        value("3=3", 1);
        value("3=4", 0);
        value("1+2=3", 1);
        value("5+(2<3)*10", 15);
        value("-1<0", 1);
        value("beard+more-week", 14);
        value("beard<more+week", 0);
        value("beard=more+week", 1);
        value("beard*0+7", 7);
        value("0007", 7);
        value("-1 and 1", 1);
        // 32 bits, wrapping: 65536 * 65536 is 0
        value("(256*256)*(256*256)+5", 5);
        value("256*256*128*256+256*256*128*256-1+10", 9);
        value("256*256*128*256<0", 1);
        value("-(256*256*128*256)<0", 1);
    }

    private static void bounds() {
        BeardsAreBonds x = new BeardsAreBonds();
        x.man(0, 0, 0);
        Check.law(x, "grows 99;trims 100;shames -1;");
        check.due("99", x.asks(0, 0, 0), 99);
        check.due("100", x.asks(1, 0, 0), 99);
        check.due("-1", x.asks(2, 0, 0), 0);
    }
}
