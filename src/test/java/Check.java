/** Counts and prints the answers that are not as due. */
final class Check {
    private final String name;
    private int asked;
    private int wrong;

    Check(String name) {
        this.name = name;
    }

    void due(String call, long got, long want) {
        asked++;
        if (got != want) {
            wrong++;
            System.out.println(name + ": " + call + " answered " + got + ", due is " + want);
        }
    }

    /** Ends the program with 1, if an answer was not as due. */
    void end() {
        System.out.println(name + ": " + asked + " answers, " + wrong + " not as due");
        if (wrong != 0) {
            System.exit(1);
        }
    }

    /** Feeds the text's signs to the tape, five at a time. */
    static void feedAll(BeardsAreBonds x, String text) {
        for (int i = 0; i < text.length(); i += 5) {
            int n = Math.min(5, text.length() - i);
            int[] b = new int[5];
            for (int k = 0; k < n; k++) {
                b[k] = text.charAt(i + k);
            }
            x.feed(n, b[0], b[1], b[2], b[3], b[4]);
        }
    }

    /** Feeds a text and reads it. */
    static int text(BeardsAreBonds x, String text) {
        feedAll(x, text);
        return x.text();
    }

    /** Feeds a text, reads it, makes it the law. */
    static void law(BeardsAreBonds x, String text) {
        int t = text(x, text);
        if (x.force(t) < 0) {
            throw new IllegalStateException("no text: " + text + " answered " + t);
        }
    }

    /** Makes a sheet that tells these numbers. */
    static void sheet(BeardsAreBonds x, int s, int sort, int... numbers) {
        x.sheet(s, sort, numbers.length);
        for (int i = 0; i < numbers.length; i++) {
            x.cell(s, i, numbers[i]);
        }
    }
}
