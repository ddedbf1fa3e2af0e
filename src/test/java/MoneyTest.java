/** Promises 30 to 36: debts and CLEARING, CLAUSES and THE POOL, and look. */
public final class MoneyTest {

    public static void main(String[] args) {
        owe();
        purse();
        clear();
        fall();
        hallsPay();
        shares();
        lastRound();
        clause();
        stand();
        pool();
        shutOut();
        look();
        constants();
        Check.finish();
    }

    private static void owe() {
        TalkingReels x = new TalkingReels();
        int[][] cannotBe = {
            {-1, 0, 1}, {20, 0, 1}, {0, -1, 1}, {0, 20, 1}, {0, 1, -1}, {0, 1, 100000}, {0, 0, 1}, {19, 19, 0}};
        for (int[] o : cannotBe) {
            Check.due("owe that can't be", x.owe(o[0], o[1], o[2]), false);
        }
        Check.due("owe(0, 19, 99999)", x.owe(0, 19, 99999), true);
        Check.due("a hall that did not come", x.clear(0, 0, 2), 1);
        Check.due("owe(0, 19, 0)", x.owe(0, 19, 0), true);
        Check.due("it owes nothing", x.clear(0, 0, 2), 0);
        x.owe(16, 17, 30);
        x.owe(16, 17, 20);
        x.purse(16, 25);
        Check.due("told again", x.clear(0, 16, 0), 20);
    }

    private static void purse() {
        TalkingReels x = new TalkingReels();
        int[][] cannotBe = {{15, 1}, {0, 1}, {-1, 1}, {20, 1}, {16, -1}, {16, 100000}};
        for (int[] p : cannotBe) {
            Check.due("purse that can't be", x.purse(p[0], p[1]), false);
        }
        for (int party = 16; party < 20; party++) {
            Check.due("purse " + party, x.purse(party, 99999), true);
            x.owe(party, 0, 99999);
            Check.due("it pays all", x.clear(0, party, 0), 99999);
        }
        Check.due("all comes", x.clear(0, 0, 1), 4 * 99999);
        x.purse(16, 0);
        Check.due("told again", x.clear(0, 16, 0), 0);
    }

    private static void clear() {
        TalkingReels x = new TalkingReels();
        x.owe(16, 17, 100);
        x.owe(17, 18, 100);
        x.purse(16, 40);
        int[][] cannotBe = {{-1, 0, 0}, {101, 0, 0}, {0, -1, 0}, {0, 20, 0}, {0, 0, -1}, {0, 0, 4}};
        for (int[] c : cannotBe) {
            Check.due("clear that can't be", x.clear(c[0], c[1], c[2]), -1);
        }
        Check.due("16 pays", x.clear(0, 16, 0), 40);
        Check.due("17 pays", x.clear(0, 17, 0), 40);
        Check.due("18 pays", x.clear(0, 18, 0), 0);
        Check.due("16 gets", x.clear(0, 16, 1), 0);
        Check.due("17 gets", x.clear(0, 17, 1), 40);
        Check.due("18 gets", x.clear(0, 18, 1), 40);
        Check.due("16 lacks", x.clear(0, 16, 2), 1);
        Check.due("17 lacks", x.clear(0, 17, 2), 1);
        Check.due("18 does not", x.clear(0, 18, 2), 0);
        Check.due("rounds", x.clear(0, 18, 3), 3);
        Check.due("asked again", x.clear(0, 17, 1), 40);
        x.purse(17, 100);
        Check.due("17 pays all", x.clear(0, 17, 0), 100);
        Check.due("rounds now", x.clear(0, 0, 3), 2);
    }

    private static void fall() {
        TalkingReels x = new TalkingReels();
        x.purse(16, 199);
        x.owe(16, 17, 500);
        Check.due("no fall", x.clear(0, 16, 0), 199);
        Check.due("a fall of 1", x.clear(1, 16, 0), 197);
        Check.due("a fall of 50", x.clear(50, 16, 0), 99);
        Check.due("a fall of 99", x.clear(99, 16, 0), 1);
        Check.due("a fall of 100", x.clear(100, 16, 0), 0);
    }

    private static void hallsPay() {
        TalkingReels x = new TalkingReels();
        x.picture(0, 1, 2, 0, 100);
        x.hall(0, 50, 7, 0);
        x.hall(0, 50, 7, 9);
        x.hire(x.set(0, 7, 0), 0);
        x.book(x.print(0), 0);
        x.crowd(0, 1, 2, 33, 9);
        x.owe(0, 19, 1000);
        x.owe(1, 19, 1000);
        x.owe(2, 19, 1000);
        Check.due("before any week", x.clear(0, 0, 0), 0);
        x.weeks(1);
        Check.due("its coin", x.clear(0, 0, 0), 231);
        Check.due("a fall of its coin", x.clear(10, 0, 0), 207);
        Check.due("a coin below 0", x.of(1, 0), -27);
        Check.due("pays nothing", x.clear(0, 1, 0), 0);
        Check.due("who did not come pays nothing", x.clear(0, 2, 0), 0);
        Check.due("the bank gets", x.clear(0, 19, 1), 231);
    }

    private static void shares() {
        TalkingReels one = new TalkingReels();
        one.purse(16, 1);
        one.owe(16, 17, 1);
        Check.due("a debt of one", one.clear(0, 17, 1), 1);
        TalkingReels x = new TalkingReels();
        x.purse(16, 10);
        x.owe(16, 17, 1);
        x.owe(16, 18, 5);
        x.owe(16, 19, 8);
        Check.due("shares go downwards: 17", x.clear(0, 17, 1), 0);
        Check.due("shares go downwards: 18", x.clear(0, 18, 1), 3);
        Check.due("shares go downwards: 19", x.clear(0, 19, 1), 5);
        for (int i = 0; i < 20; i++) {
            x.owe(19, i, 99999);
            x.owe(i, 19, 99999);
        }
        x.purse(19, 99999);
        Check.due("large ones", x.clear(0, 19, 0), 19L * 99999);
        Check.due("large shares", x.clear(0, 3, 1), 99999);
    }

    /** Debts in a ring from which very little goes away in each ROUND. */
    private static void lastRound() {
        TalkingReels x = new TalkingReels();
        x.owe(16, 17, 99999);
        x.owe(17, 16, 99999);
        x.owe(16, 18, 99);
        Check.due("three hundred rounds", x.clear(0, 16, 3), 300);
        long p = 99999 + 99;
        long q = 99999;
        for (int i = 0; i < 300; i++) {
            long paid = Math.min(99999 + 99, q);
            q = Math.min(99999, 99999 * p / (99999 + 99));
            p = paid;
        }
        Check.due("what 16 pays in the end", x.clear(0, 16, 0), p);
        Check.due("what 17 pays in the end", x.clear(0, 17, 0), q);
        Check.due("what comes to 17 in the end", x.clear(0, 17, 1), 99999 * p / (99999 + 99));
        Check.due("what comes to 18 in the end", x.clear(0, 18, 1), 99 * p / (99999 + 99));
    }

    private static void clause() {
        TalkingReels x = new TalkingReels();
        int[][] cannotBe = {{100, 0, 0}, {-100, 0, 0}, {0, 100, 0}, {0, -100, 0}, {0, 0, 100}, {0, 0, -100}};
        for (int[] c : cannotBe) {
            Check.due("clause that can't be", x.clause(c[0], c[1], c[2]), -1);
        }
        for (int i = 0; i < 9; i++) {
            Check.due("clause " + i, i % 2 == 0 ? x.clause(99, 99, 99) : x.clause(-99, -99, -99), i);
        }
        Check.due("clause 9", x.clause(0, 0, 0), -1);
        Check.due("pool(0)", x.pool(0), 1 + 4 + 16 + 64 + 256);
        Check.due("pool(1)", x.pool(1), 5 * 297);
    }

    private static void stand() {
        TalkingReels x = new TalkingReels();
        int[][] cannotBe = {{-1, 0}, {3, 0}, {0, 1000}, {0, -1000}};
        for (int[] s : cannotBe) {
            Check.due("stand that can't be", x.stand(s[0], s[1]), false);
        }
        Check.due("stand(0, 999)", x.stand(0, 999), true);
        Check.due("no pool", x.pool(0), -1);
        Check.due("stand(0, -999)", x.stand(0, -999), true);
        Check.due("the empty pool", x.pool(0), 0);
        x.clause(-99, 99, 99);
        Check.due("a pool below 0 for one", x.pool(0), 1);
        x.stand(0, -99);
        Check.due("at its stand", x.pool(0), 1);
        x.stand(0, -98);
        Check.due("above its stand", x.pool(0), 0);
    }

    private static void pool() {
        TalkingReels x = new TalkingReels();
        Check.due("the empty set", x.pool(0), 0);
        Check.due("worth nothing", x.pool(1), 0);
        Check.due("none shut out", x.pool(2), -1);
        x.clause(5, -2, 1);
        x.clause(-1, 4, 1);
        x.clause(0, 0, 0);
        x.clause(9, 9, -9);
        Check.due("pool(0)", x.pool(0), 3);
        Check.due("pool(1)", x.pool(1), 8);
        Check.due("pool(2)", x.pool(2), -1);
        Check.due("pool(10)", x.pool(10), 4);
        Check.due("pool(11)", x.pool(11), 2);
        Check.due("pool(12)", x.pool(12), 2);
        int[] none = {-1, 3, 9, 13, Integer.MIN_VALUE, Integer.MAX_VALUE};
        for (int what : none) {
            Check.due("pool(" + what + ")", x.pool(what), -1);
        }
        x.stand(2, -7);
        Check.due("one that goes below", x.pool(0), 11);
        Check.due("its worth", x.pool(1), 17);
    }

    private static void shutOut() {
        int[][] rows = {{9, 0, 0, 0}, {0, 9, 0, 1}, {0, 0, 9, 2}, {9, 9, 0, 3}, {0, 9, 9, 3}, {9, 0, 9, 3}, {9, 9, 9, 3}};
        for (int[] row : rows) {
            TalkingReels x = new TalkingReels();
            x.clause(1, 1, 1);
            for (int firm = 0; firm < 3; firm++) {
                x.stand(firm, row[firm]);
            }
            Check.due("pool(0)", x.pool(0), -1);
            Check.due("pool(1)", x.pool(1), 0);
            Check.due("pool(2)", x.pool(2), row[3]);
            Check.due("pool(10)", x.pool(10), 0);
            Check.due("pool(11)", x.pool(11), 0);
            Check.due("pool(12)", x.pool(12), 0);
        }
        TalkingReels x = new TalkingReels();
        x.clause(9, 9, -20);
        x.clause(-20, 9, 9);
        x.clause(9, -20, 9);
        for (int firm = 0; firm < 3; firm++) {
            x.stand(firm, 9);
        }
        Check.due("the least of several", x.pool(2), 0);
        x.stand(2, 99);
        Check.due("the other two", x.pool(2), 2);
    }

    private static void look() {
        TalkingReels x = new TalkingReels();
        x.picture(0, 0, 0, 0, 100);
        for (int i = 0; i < 2; i++) {
            x.print(0);
        }
        for (int i = 0; i < 3; i++) {
            x.event(0, 1, 0, 1);
        }
        for (int i = 0; i < 4; i++) {
            x.hall(0, 10, 1, i);
        }
        for (int i = 0; i < 5; i++) {
            x.set(0, 7, 0);
        }
        for (int i = 0; i < 6; i++) {
            x.crowd(0, 0, 0, 5, 9);
        }
        x.hire(0, 0);
        x.book(0, 0);
        x.hire(1, 1);
        x.book(1, 1);
        Check.rules(x, 0, "fee 1; fee 2;");
        Check.rules(x, 1, "keep 1; fee 2;");
        Check.rules(x, 2, "bar 1 < 1;");
        x.weeks(12);
        long[] due = {12, 1, 2, 3, 4, 5, 6, 360, 6, 2, 5};
        for (int what = 0; what < due.length; what++) {
            Check.due("look(" + what + ")", x.look(what), due[what]);
        }
        Check.due("look(-1)", x.look(-1), -1);
        Check.due("look(11)", x.look(11), -1);
    }

    private static void constants() {
        Check.due("NONE", TalkingReels.NONE, -1);
    }
}
