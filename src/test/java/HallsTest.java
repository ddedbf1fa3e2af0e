/** Promises 7 to 11: HALLS, SETS, and who is where. */
public final class HallsTest {

    public static void main(String[] args) {
        hall();
        asks();
        set();
        hire();
        book();
        Check.finish();
    }

    private static void hall() {
        TalkingReels x = new TalkingReels();
        int[][] cannotBe = {
            {-1, 10, 1, 0}, {4, 10, 1, 0}, {0, 9, 1, 0}, {0, 1000, 1, 0}, {0, 10, 0, 0}, {0, 10, 100, 0},
            {0, 10, 1, -1}, {0, 10, 1, 41}, {0, Integer.MIN_VALUE, 1, 0}};
        for (int[] h : cannotBe) {
            Check.due("hall that can't be", x.hall(h[0], h[1], h[2], h[3]), -1);
        }
        Check.due("none came", x.look(4), 0);
        for (int i = 0; i < 16; i++) {
            Check.due("hall " + i, i % 2 == 0 ? x.hall(0, 10, 1, 0) : x.hall(3, 999, 99, 40), i);
        }
        Check.due("hall 16", x.hall(0, 10, 1, 0), -1);
        Check.due("look(4)", x.look(4), 16);
        Check.due("look(8)", x.look(8), 320);
        for (int what = 0; what <= 5; what++) {
            Check.due("of(15, " + what + ")", x.of(15, what), what == 3 || what == 4 ? -1 : 0);
        }
    }

    private static void asks() {
        TalkingReels x = new TalkingReels();
        Check.due("asks of none", x.asks(0, 5, 5), false);
        x.hall(0, 10, 50, 20);
        x.crowd(0, 0, 0, 1, 50);
        x.picture(0, 0, 0, 0, 100);
        x.print(0);
        x.set(0, 1, 0);
        x.hire(0, 0);
        x.book(0, 0);
        Check.due("worth at the PURSE", x.worth(0, 0), 7);
        int[][] cannotBe = {{-1, 5, 5}, {1, 5, 5}, {0, 0, 5}, {0, 100, 5}, {0, 5, -1}, {0, 5, 41}};
        for (int[] a : cannotBe) {
            Check.due("asks that can't be", x.asks(a[0], a[1], a[2]), false);
        }
        Check.due("players as before", x.look(8), 20);
        Check.due("worth as before", x.worth(0, 0), 7);
        Check.due("asks(0, 51, 40)", x.asks(0, 51, 40), true);
        Check.due("players now", x.look(8), 40);
        Check.due("worth now", x.worth(0, 0), -99);
        Check.due("asks(0, 1, 0)", x.asks(0, 1, 0), true);
        Check.due("asks the same", x.asks(0, 1, 0), true);
        Check.due("worth then", x.worth(0, 0), 7);
        Check.due("asks(0, 99, 0)", x.asks(0, 99, 0), true);
    }

    private static void set() {
        TalkingReels x = new TalkingReels();
        int[][] cannotBe = {{-1, 1, 0}, {3, 1, 0}, {0, 0, 0}, {0, 8, 0}, {0, 1, -1}, {0, 1, 100}};
        for (int[] s : cannotBe) {
            Check.due("set that can't be", x.set(s[0], s[1], s[2]), -1);
        }
        for (int i = 0; i < 20; i++) {
            Check.due("set " + i, i % 2 == 0 ? x.set(0, 1, 0) : x.set(2, 7, 99), i);
        }
        Check.due("set 20", x.set(0, 1, 0), -1);
        Check.due("look(5)", x.look(5), 20);
    }

    private static void hire() {
        TalkingReels x = new TalkingReels();
        x.hall(0, 10, 1, 0);
        x.hall(0, 10, 1, 0);
        Check.due("hire of none", x.hire(0, 0), false);
        x.set(0, 1, 0);
        x.set(0, 1, 0);
        Check.due("hire(0, -1) from none", x.hire(0, -1), false);
        Check.due("hire(0, 2)", x.hire(0, 2), false);
        Check.due("hire(0, -2)", x.hire(0, -2), false);
        Check.due("hire(-1, 0)", x.hire(-1, 0), false);
        Check.due("hire(2, 0)", x.hire(2, 0), false);
        Check.due("hire(-1, -1)", x.hire(-1, -1), false);
        Check.due("hire(0, 0)", x.hire(0, 0), true);
        Check.due("hire(0, 0) again", x.hire(0, 0), false);
        Check.due("hire(1, 0) where another is", x.hire(1, 0), false);
        Check.due("of(0, 3)", x.of(0, 3), 0);
        Check.due("hire(1, 1)", x.hire(1, 1), true);
        Check.due("hire(0, 1) where another is", x.hire(0, 1), false);
        Check.due("of(0, 3) as before", x.of(0, 3), 0);
        Check.due("of(1, 3) as before", x.of(1, 3), 1);
        Check.due("hire(1, -1)", x.hire(1, -1), true);
        Check.due("of(1, 3) without", x.of(1, 3), -1);
        Check.due("hire(0, 1) from 0", x.hire(0, 1), true);
        Check.due("of(0, 3) left", x.of(0, 3), -1);
        Check.due("of(1, 3) come", x.of(1, 3), 0);
        Check.due("hire(1, 0) come", x.hire(1, 0), true);
    }

    private static void book() {
        TalkingReels x = new TalkingReels();
        x.hall(0, 10, 1, 0);
        x.hall(0, 10, 1, 0);
        Check.due("book of none", x.book(0, 0), false);
        x.picture(0, 0, 0, 0, 100);
        x.print(0);
        x.print(0);
        Check.due("book(0, -1) from none", x.book(0, -1), false);
        Check.due("book(0, 2)", x.book(0, 2), false);
        Check.due("book(0, -2)", x.book(0, -2), false);
        Check.due("book(-1, 0)", x.book(-1, 0), false);
        Check.due("book(2, 0)", x.book(2, 0), false);
        Check.due("book(0, 0)", x.book(0, 0), true);
        Check.due("book(0, 0) again", x.book(0, 0), false);
        Check.due("book(1, 0) where another is", x.book(1, 0), false);
        Check.due("at(0, 2)", x.at(0, 2), 0);
        Check.due("at(1, 2)", x.at(1, 2), -1);
        Check.due("book(0, 1) from 0", x.book(0, 1), true);
        Check.due("at(0, 2) there", x.at(0, 2), 1);
        Check.due("of(0, 4) left", x.of(0, 4), -1);
        Check.due("of(1, 4) come", x.of(1, 4), 0);
        Check.due("book(1, 1) where another is", x.book(1, 1), false);
        Check.due("book(0, -1)", x.book(0, -1), true);
        Check.due("at(0, 2) nowhere", x.at(0, 2), -1);
        Check.due("of(1, 4) without", x.of(1, 4), -1);
        Check.due("book(1, 1)", x.book(1, 1), true);
    }
}
