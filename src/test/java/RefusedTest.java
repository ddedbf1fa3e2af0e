/** A refused call does nothing: behind it the object answers all as one that was never asked it. */
public final class RefusedTest {
    private static final int LEAST = Integer.MIN_VALUE;
    private static final int MOST = Integer.MAX_VALUE;

    private final String state;
    private final String untouched;

    private RefusedTest(String state) {
        this.state = state;
        untouched = answers(begin());
    }

    public static void main(String[] args) {
        RefusedTest furnished = new RefusedTest("furnished");
        furnished.reels();
        furnished.houses();
        furnished.others();
        new RefusedTest("new").nothingThere();
        RefusedTest full = new RefusedTest("full");
        full.noRoom();
        Check.finish();
    }

    private Caller begin() {
        Caller c = new Caller(new TalkingReels());
        if (state.equals("furnished")) {
            Scene.furnish(c);
        } else if (state.equals("full")) {
            Scene.fill(c);
        }
        return c;
    }

    private String answers(Caller c) {
        return state.equals("furnished") ? Scene.answers(c) : Scene.fewAnswers(c);
    }

    private void refused(String name, long answer, int... numbers) {
        StringBuilder call = new StringBuilder(state + ": " + name);
        for (int v : numbers) {
            call.append(' ').append(v);
        }
        Caller c = begin();
        Check.due(call.toString(), c.call(name, numbers), answer);
        Check.holds(call + " does nothing", answers(c).equals(untouched));
    }

    /** Each number in turn is one of those that can't be, the others are good. */
    private void eachRefused(String name, long answer, int[] good, int[]... bad) {
        for (int i = 0; i < good.length; i++) {
            for (int v : bad[i]) {
                int[] numbers = good.clone();
                numbers[i] = v;
                refused(name, answer, numbers);
            }
        }
        Caller c = begin();
        long answered = c.call(name, good);
        Check.holds(state + ": " + name + " is done if all can be, it answered " + answered, answered != answer);
    }

    private static int[] of(int... numbers) {
        return numbers;
    }

    private static int[] beyond(int least, int most) {
        return of(least - 1, most + 1, LEAST, MOST);
    }

    private void reels() {
        eachRefused("picture", -1, of(1, 2, 2, 1, 500),
            beyond(0, 2), beyond(0, 4), beyond(0, 3), beyond(0, 2), beyond(100, 9999));
        refused("picture", -1, 1, 5, 2, 0, 500);
        refused("picture", -1, 1, 5, 2, 2, 500);
        refused("picture", -1, 1, 4, 2, 3, 500);
        eachRefused("print", -1, of(2), beyond(0, 2));
        eachRefused("event", -1, of(0, 0, 20, 9), beyond(0, 3), beyond(0, 2), beyond(0, 99), beyond(1, 99));
        eachRefused("event", -1, of(0, 1, 20, 9), beyond(0, 3), of(), beyond(0, 99), beyond(1, 99));
        eachRefused("event", -1, of(0, 2, 20, 9), beyond(0, 3), of(), beyond(0, 99), of(-10, 0, 10, LEAST, MOST));
        eachRefused("event", -1, of(0, 3, 0, 9), beyond(0, 3), of(), beyond(0, 0), beyond(-99, 99));
    }

    private void houses() {
        eachRefused("hall", -1, of(0, 50, 5, 5), beyond(0, 3), beyond(10, 999), beyond(1, 99), beyond(0, 40));
        eachRefused("asks", 0, of(0, 50, 5), beyond(0, 2), beyond(1, 99), beyond(0, 40));
        eachRefused("set", -1, of(0, 5, 5), beyond(0, 2), beyond(1, 7), beyond(0, 99));
        eachRefused("hire", 0, of(2, 1), beyond(0, 2), of(-2, 0, 2, 3, LEAST, MOST, -1));
        eachRefused("hire", 0, of(0, 1), beyond(0, 2), of(-2, 0, 2, 3, LEAST, MOST));
        refused("hire", 0, -1, -1);
        refused("hire", 0, 3, -1);
        refused("book", 0, 3, 0);
        refused("book", 0, 3, -1);
        refused("book", 0, 0, 1);
        refused("book", 0, 0, 0);
        eachRefused("book", 0, of(0, -1), beyond(0, 3), of(-2, 3, LEAST, MOST));
        eachRefused("crowd", -1, of(0, 1, 2, 50, 50),
            beyond(0, 3), beyond(0, 4), beyond(0, 3), beyond(0, 9999), beyond(0, 99));
        eachRefused("weeks", -1, of(1), beyond(1, 20));
        for (int n : of(-1, 41, 600, LEAST, MOST)) {
            refused("end", 0, n);
        }
    }

    private void others() {
        eachRefused("version", -1, of(7), beyond(1, 20));
        eachRefused("change", 0, of(0, 2, 3), beyond(0, 2), beyond(0, 2), beyond(0, 9));
        refused("change", 0, 1, 1, 5);
        eachRefused("person", -1, of(9, 9), beyond(1, 31), beyond(0, 9));
        eachRefused("needs", 0, of(1, 5, 500), beyond(0, 2), beyond(1, 9), beyond(0, 999));
        eachRefused("owe", 0, of(16, 17, 50), beyond(0, 19), beyond(0, 19), beyond(0, 99999));
        refused("owe", 0, 17, 17, 50);
        refused("owe", 0, 0, 0, 0);
        eachRefused("purse", 0, of(17, 50), of(-1, 0, 15, 20, LEAST, MOST), beyond(0, 99999));
        eachRefused("clause", -1, of(9, 9, 9), beyond(-99, 99), beyond(-99, 99), beyond(-99, 99));
        eachRefused("stand", 0, of(1, 500), beyond(0, 2), beyond(-999, 999));
    }

    private void nothingThere() {
        refused("print", -1, 0);
        refused("event", -1, 0, 0, 0, 1);
        refused("asks", 0, 0, 1, 0);
        refused("hire", 0, 0, 0);
        refused("hire", 0, 0, -1);
        refused("book", 0, 0, 0);
        refused("book", 0, 0, -1);
        refused("end", 0, 1);
        refused("change", 0, 0, 1, 0);
        refused("needs", 0, 0, 1, 0);
    }

    private void noRoom() {
        refused("picture", -1, 0, 0, 0, 0, 100);
        refused("print", -1, 0);
        refused("event", -1, 0, 0, 0, 1);
        refused("event", -1, 0, 3, 0, 50);
        refused("hall", -1, 0, 10, 1, 40);
        refused("set", -1, 0, 1, 0);
        refused("crowd", -1, 0, 0, 0, 100, 99);
        refused("version", -1, 1);
        refused("person", -1, 31, 9);
        refused("clause", -1, 99, 99, 99);
        refused("feed", -1, -1, -1, -1, -1, -1);
        refused("feed", -1, 0, 0, 0, 0, 0);
        refused("end", 0, 601);
        refused("change", 0, 0, 9, 1);
        refused("needs", 0, 16, 9, 999);
        refused("asks", 0, 16, 99, 40);
        refused("hire", 0, 20, 0);
        refused("book", 0, 30, 0);
    }
}
