/** Counts the answers that are not as due, prints each, and ends a test with exit code 1 if there was one. */
final class Check {
    /** A call with one number left open. */
    interface Call {
        long of(int v);
    }

    private static int asked = 0;
    private static int wrong = 0;
    private static String sentence = "";

    private Check() {
    }

    /** What is asked from now on belongs to this sentence of the document. */
    static void about(String itsSentence) {
        sentence = "[" + itsSentence + "] ";
    }

    static void due(String call, long got, long want) {
        asked++;
        if (got != want) {
            wrong++;
            System.out.println(sentence + call + " answered " + got + ", due is " + want);
        }
    }

    static void due(String call, boolean got, boolean want) {
        due(call, one(got), one(want));
    }

    static long one(boolean yes) {
        return yes ? 1 : 0;
    }

    static void holds(String what, boolean holds) {
        asked++;
        if (!holds) {
            wrong++;
            System.out.println(sentence + "it does not hold that " + what);
        }
    }

    /** Asks at both ends (one answer is due) and beyond them, by one and by far (the other one is). */
    static void range(String what, int least, int most, Call call, long within, long beyond) {
        due(what + " " + least, call.of(least), within);
        due(what + " " + most, call.of(most), within);
        for (int v : new int[] {least - 1, most + 1, Integer.MIN_VALUE, Integer.MAX_VALUE}) {
            due(what + " " + v, call.of(v), beyond);
        }
    }

    /** Puts a text on the TAPE, with blanks behind it cut off again. */
    static void type(TalkingReels x, String text) {
        x.end(0);
        for (int i = 0; i < text.length(); i += 20) {
            x.feed(four(text, i), four(text, i + 4), four(text, i + 8), four(text, i + 12), four(text, i + 16));
        }
        holds("the TAPE takes " + text, x.end(text.length()));
    }

    static int four(String text, int from) {
        int all = 0;
        for (int i = from; i < from + 4; i++) {
            all = all << 8 | (i < text.length() ? text.charAt(i) : ' ');
        }
        return all;
    }

    /** Makes a text the RULES of a FIRM. */
    static int rules(TalkingReels x, int firm, String text) {
        type(x, text);
        return x.rules(firm);
    }

    static void finish() {
        System.out.println(asked + " answers asked, " + wrong + " not as due");
        if (wrong > 0) {
            System.exit(1);
        }
    }
}
