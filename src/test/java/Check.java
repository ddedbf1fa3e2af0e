/** Counts the answers that are not as due, prints each, and ends a test with exit code 1 if there was one. */
final class Check {
    private static int asked = 0;
    private static int wrong = 0;

    private Check() {
    }

    static void due(String call, long got, long want) {
        asked++;
        if (got != want) {
            wrong++;
            System.out.println(call + " answered " + got + ", due is " + want);
        }
    }

    static void due(String call, boolean got, boolean want) {
        due(call, got ? 1 : 0, want ? 1 : 0);
    }

    static void holds(String what, boolean holds) {
        asked++;
        if (!holds) {
            wrong++;
            System.out.println("it does not hold that " + what);
        }
    }

    /** Puts a text on the TAPE, with blanks behind it cut off again. */
    static void type(TalkingReels x, String text) {
        x.end(0);
        for (int i = 0; i < text.length(); i += 20) {
            x.feed(four(text, i), four(text, i + 4), four(text, i + 8), four(text, i + 12), four(text, i + 16));
        }
        holds("the TAPE takes " + text, x.end(text.length()));
    }

    static int four(String text, int from) {
        int all = 0;
        for (int i = from; i < from + 4; i++) {
            all = all << 8 | (i < text.length() ? text.charAt(i) : ' ');
        }
        return all;
    }

    /** Makes a text the RULES of a FIRM. */
    static int rules(TalkingReels x, int firm, String text) {
        type(x, text);
        return x.rules(firm);
    }

    static void finish() {
        System.out.println(asked + " answers asked, " + wrong + " not as due");
        if (wrong > 0) {
            System.exit(1);
        }
    }
}
