/** The sentences of section 6 of the terms and of promises 30 to 36, each with a test of its own. */
final class MoneySentences {
    private MoneySentences() {
    }

    static void ask() {
        debts();
        terms();
        owe();
        purse();
        clearWhat();
        clearNone();
        clauseNumber();
        stand();
        poolWhat();
        poolWorth();
        poolShutOut();
        poolOfAFirm();
        poolNone();
        lookWhat();
        lookOfAFullObject();
        lookNone();
    }

    private static void debts() {
        parties();
        amounts();
        purses();
        fall();
        atFirstAll();
        rounds();
        shares();
        lastRound();
    }

    private static void terms() {
        clauses();
        signs();
        thePool();
        shutOut();
        constants();
    }

    private static TalkingReels fresh() {
        return new TalkingReels();
    }

    private static void due(String call, long got, long want) {
        Check.due(call, got, want);
    }

    private static void due(String call, boolean got, boolean want) {
        Check.due(call, got, want);
    }

    /** What a PARTY pays, what comes to it, and whether it lacks. */
    private static void cleared(String what, TalkingReels x, int party, long pays, long comes, long lacks) {
        due(what + ": pays", x.clear(0, party, 0), pays);
        due(what + ": comes", x.clear(0, party, 1), comes);
        due(what + ": lacks", x.clear(0, party, 2), lacks);
    }

    private static void parties() {
        Doc.terms(6, "PARTIES: 0 .. 15 the HALLS of these numbers (whether they came or not), 16 .. 18 the MAKERS, 19 the bank.");
        TalkingReels x = fresh();
        Check.range("who owes", 0, 19, v -> Check.one(x.owe(v, 7, 1)), 1, 0);
        Check.range("whom it owes", 0, 19, v -> Check.one(x.owe(7, v, 1)), 1, 0);
        Check.range("who pays", 0, 19, v -> x.clear(0, v, 0) >= 0 ? 1 : -1, 1, -1);
        for (int party = 0; party < 20; party++) {
            due("a PURSE of " + party, x.purse(party, 50), party >= 16);
        }
        TalkingReels y = fresh();
        y.owe(15, 7, 3);
        y.owe(19, 7, 2);
        y.purse(19, 50);
        cleared("a HALL that did not come", y, 15, 0, 0, 1);
        cleared("the bank", y, 19, 2, 0, 0);
        cleared("a HALL that did not come, but gets", y, 7, 0, 2, 0);
        y.owe(7, 18, 5);
        cleared("it pays what it gets", y, 7, 2, 2, 1);
    }

    private static void amounts() {
        Doc.terms(6, "A OWES B 0 .. 99999 (0 at first).");
        TalkingReels x = fresh();
        due("0 at first", x.clear(0, 16, 2), 0);
        Check.range("owe", 0, 99999, v -> Check.one(x.owe(16, 17, v)), 1, 0);
        x.purse(16, 99999);
        cleared("99999", x, 16, 99999, 0, 0);
        x.owe(16, 18, 1);
        cleared("100000", x, 16, 99999, 0, 1);
        x.owe(16, 17, 0);
        cleared("1", x, 16, 1, 0, 0);
    }

    /** Two HALLS that each owe the bank 1000; HALL 0 earns 100 in a WEEK, HALL 1 loses 120. */
    private static TalkingReels earning() {
        TalkingReels x = fresh();
        x.picture(0, 1, 2, 0, 100);
        x.print(0);
        x.hall(0, 10, 10, 0);
        x.hall(0, 10, 10, 40);
        x.set(0, 1, 0);
        x.hire(0, 0);
        x.book(0, 0);
        x.crowd(0, 1, 2, 10, 10);
        for (int hall = 0; hall < 16; hall++) {
            x.owe(hall, 19, 1000);
        }
        return x;
    }

    private static void purses() {
        Doc.terms(6, "PURSES: of a HALL its COIN (0 at least; 0 if it did not come), of the others as told (0 .. 99999, 0 at "
            + "first);");
        TalkingReels x = earning();
        cleared("a COIN of 0", x, 0, 0, 0, 1);
        x.weeks(1);
        cleared("a COIN of 100", x, 0, 100, 0, 1);
        due("a COIN below 0", x.of(1, 0), -120);
        cleared("of below 0", x, 1, 0, 0, 1);
        cleared("it did not come", x, 2, 0, 0, 1);
        cleared("the last one, it did not come", x, 15, 0, 0, 1);
        cleared("the bank", x, 19, 0, 100, 0);
        for (int party = 16; party <= 19; party++) {
            int itsParty = party;
            TalkingReels y = fresh();
            y.owe(party, 5, 99999);
            due("0 at first", y.clear(0, party, 0), 0);
            Check.range("purse of " + party, 0, 99999, v -> Check.one(y.purse(itsParty, v)), 1, 0);
            due("it is told 99999", y.clear(0, party, 0), 99999);
            y.purse(party, 0);
            due("it is told 0", y.clear(0, party, 0), 0);
        }
    }

    private static void fall() {
        Doc.terms(6, "with a FALL of f (0 .. 100): 100 - f hundredths of it.");
        TalkingReels x = earning();
        x.weeks(1);
        x.purse(16, 99999);
        x.owe(16, 17, 99999);
        Check.range("fall", 0, 100, v -> x.clear(v, 5, 0), 0, -1);
        long[][] due = {{0, 100, 99999}, {1, 99, 98999}, {50, 50, 49999}, {99, 1, 999}, {100, 0, 0}};
        for (long[] d : due) {
            due("a HALL, fall " + d[0], x.clear((int) d[0], 0, 0), d[1]);
            due("a MAKER, fall " + d[0], x.clear((int) d[0], 16, 0), d[2]);
        }
        due("the COIN stays", x.of(0, 0), 100);
        TalkingReels y = fresh();
        y.purse(16, 1);
        y.owe(16, 17, 1);
        due("99 hundredths of 1", y.clear(1, 16, 0), 0);
    }

    private static void atFirstAll() {
        Doc.terms(6, "CLEARING: at first each pays all that it OWES.");
        TalkingReels x = fresh();
        x.owe(16, 17, 50);
        x.owe(17, 18, 50);
        x.owe(18, 16, 50);
        cleared("a ring without a PURSE", x, 16, 50, 50, 0);
        due("one ROUND", x.clear(0, 16, 3), 1);
        x.owe(16, 17, 51);
        cleared("one more than comes", x, 16, 50, 50, 1);
        cleared("the next one", x, 17, 50, 50, 0);
        due("two ROUNDS", x.clear(0, 16, 3), 2);
    }

    /** 16 owes 17, which owes 18, and so on: each as much. */
    private static TalkingReels chain(int debtors) {
        TalkingReels x = fresh();
        for (int i = 0; i < debtors; i++) {
            x.owe((16 + i) % 20, (17 + i) % 20, 100);
        }
        return x;
    }

    private static void rounds() {
        Doc.terms(6, "ROUNDS: each has its PURSE and what came to it in the ROUND ahead (at first: if all is paid);");
        for (int debtors = 0; debtors <= 19; debtors++) {
            TalkingReels x = chain(debtors);
            due("nothing goes through " + debtors, x.clear(0, 15, 1), 0);
            due("one after the other falls out", x.clear(0, 0, 3), debtors + 1);
            x.purse(16, 100);
            due("now it goes through " + debtors, x.clear(0, 15, 1), debtors == 19 ? 100 : 0);
            due("in one ROUND", x.clear(0, 0, 3), 1);
        }
        TalkingReels x = chain(3);
        x.purse(16, 30);
        x.purse(17, 45);
        x.purse(18, 20);
        cleared("its PURSE", x, 16, 30, 0, 1);
        cleared("its PURSE and what came", x, 17, 75, 30, 1);
        cleared("both, and the last one", x, 18, 95, 75, 1);
        cleared("who owes nothing", x, 19, 0, 95, 0);
    }

    private static void shares() {
        Doc.terms(6, "it pays the lesser one of this and all that it OWES: to each one the share (what it OWES it, times what it "
            + "pays, by all that it OWES).");
        TalkingReels x = fresh();
        x.owe(16, 17, 1);
        x.owe(16, 18, 5);
        x.owe(16, 19, 8);
        long[][] due = {{0, 0, 0, 0}, {1, 0, 0, 0}, {10, 0, 3, 5}, {13, 0, 4, 7}, {14, 1, 5, 8}, {15, 1, 5, 8}};
        for (long[] d : due) {
            x.purse(16, (int) d[0]);
            due("pays", x.clear(0, 16, 0), Math.min(14, d[0]));
            for (int i = 1; i <= 3; i++) {
                due("of " + d[0] + " to " + (16 + i), x.clear(0, 16 + i, 1), d[i]);
            }
        }
        TalkingReels one = fresh();
        one.owe(16, 17, 1);
        one.purse(16, 1);
        cleared("the least debt", one, 17, 0, 1, 0);
        TalkingReels y = fresh();
        for (int party = 0; party < 19; party++) {
            y.owe(19, party, 99999);
            y.owe(party, 19, 99999);
        }
        due("the most that one can owe", y.clear(0, 19, 0), 19L * 99999);
        due("a share of it", y.clear(0, 3, 1), 99999);
        y.owe(0, 19, 0);
        y.owe(1, 19, 99998);
        due("less than all", y.clear(0, 19, 2), 1);
    }

    /** 16 and 17 owe one another 50000, 16 owes 18 more: what both pay behind so many ROUNDS at most. */
    private static void ring(int more, int purse, int rounds) {
        TalkingReels x = fresh();
        x.owe(16, 17, 50000);
        x.owe(17, 16, 50000);
        x.owe(16, 18, more);
        x.purse(16, purse);
        long all = 50000 + more;
        long first = all;
        long second = 50000;
        for (int i = 0; i < rounds; i++) {
            long paid = Math.min(all, purse + second);
            second = Math.min(50000, 50000 * first / all);
            first = paid;
        }
        String what = "more " + more + " purse " + purse;
        due(what + ": rounds", x.clear(0, 16, 3), rounds);
        cleared(what + ", 16", x, 16, first, second, 1);
        cleared(what + ", 17", x, 17, second, 50000 * first / all, 1);
        cleared(what + ", 18", x, 18, 0, more * first / all, 0);
    }

    private static void lastRound() {
        Doc.terms(6, "The ROUNDS end with the first one in which each pays as much as in the ROUND ahead (at first: all), or with "
            + "the 300th.");
        due("nothing owed: the first", fresh().clear(0, 0, 3), 1);
        ring(2946, 0, 298);
        ring(2936, 50, 300);
        ring(2903, 50, 300);
        ring(99, 0, 300);
        ring(1, 0, 300);
    }

    private static void clauses() {
        Doc.terms(6, "CLAUSES 0 .. 8 as they come are worth -99 .. 99 to each of the FIRMS, who have STANDS (-999 .. 999, 0 at "
            + "first).");
        Check.range("worth to 0", -99, 99, v -> fresh().clause(v, 0, 0), 0, -1);
        Check.range("worth to 1", -99, 99, v -> fresh().clause(0, v, 0), 0, -1);
        Check.range("worth to 2", -99, 99, v -> fresh().clause(0, 0, v), 0, -1);
        for (int firm = 0; firm < 3; firm++) {
            int itsFirm = firm;
            Check.range("stand of " + firm, -999, 999, v -> Check.one(fresh().stand(itsFirm, v)), 1, 0);
        }
        TalkingReels x = fresh();
        x.clause(-1, 99, 99);
        due("STANDS of 0 at first", x.pool(0), 0);
        for (int i = 1; i < 9; i++) {
            due("one that can't be takes no number", x.clause(100, 0, 0), -1);
            due("clause " + i, x.clause(99, -99, 0), i);
        }
        due("no tenth", x.clause(0, 0, 0), -1);
    }

    private static void signs() {
        Doc.terms(6, "Some FIRMS SIGN a set of CLAUSES, if it is worth to each of them its STAND or more.");
        for (int firm = 0; firm < 3; firm++) {
            TalkingReels x = fresh();
            x.clause(50, 50, 50);
            x.stand(firm, 50);
            due("its STAND", x.pool(0), 1);
            x.stand(firm, 51);
            due("one less", x.pool(0), -1);
            due("the others SIGN", x.pool(2), firm);
            x.stand(firm, -999);
            due("the least STAND", x.pool(0), 1);
            x.stand(firm, 999);
            due("the greatest STAND", x.pool(0), -1);
        }
    }

    private static void thePool() {
        Doc.terms(6, "THE POOL: the set (also the empty one, 0) that all three SIGN of the greatest worth to all three together, "
            + "of several the least as a number (CLAUSE i counts 2 to the i).");
        TalkingReels x = fresh();
        due("the empty one, without CLAUSES", x.pool(0), 0);
        x.clause(-1, -1, -1);
        due("the empty one", x.pool(0), 0);
        x.clause(0, 0, 0);
        due("the empty one, not another one of 0", x.pool(0), 0);
        x.clause(9, -1, 5);
        due("one that 1 does not SIGN", x.pool(0), 0);
        x.clause(2, 1, 0);
        due("with another one", x.pool(0), 12);
        x.clause(2, 1, 0);
        due("with both", x.pool(0), 28);
        x.stand(1, 1);
        due("with both still", x.pool(0), 28);
        x.stand(1, 2);
        due("both alone", x.pool(0), 24);
        for (int i = 5; i < 8; i++) {
            x.clause(-99, -99, -99);
        }
        x.clause(99, 99, 99);
        due("the last one", x.pool(0), 256 + 28);
        TalkingReels y = fresh();
        y.clause(5, -9, -9);
        due("the empty one of 0 is more", y.pool(0), 0);
        y.stand(0, 5);
        y.stand(1, -9);
        y.stand(2, -9);
        due("a POOL of a worth below 0", y.pool(0), 1);
        TalkingReels z = fresh();
        z.clause(1, 1, 1);
        z.clause(1, 1, 1);
        z.stand(0, 1);
        z.clause(0, -1, -1);
        due("3, not 7", z.pool(0), 3);
        z.clause(0, 1, 1);
        due("11, not 15 of as much", z.pool(0), 11);
    }

    private static void shutOut() {
        Doc.terms(6, "Without one: SHUT OUT is the least FIRM without which the other two SIGN a set.");
        int[][] rows = {{9, 0, 0, 0}, {0, 9, 0, 1}, {0, 0, 9, 2}, {9, 9, 0, 3}, {0, 9, 9, 3}, {9, 0, 9, 3}, {9, 9, 9, 3}};
        for (int[] row : rows) {
            TalkingReels x = fresh();
            x.clause(8, 8, 8);
            for (int firm = 0; firm < 3; firm++) {
                x.stand(firm, row[firm]);
            }
            due("no POOL", x.pool(0), -1);
            due("shut out", x.pool(2), row[3]);
        }
        TalkingReels y = fresh();
        y.clause(9, 9, -20);
        y.clause(9, -20, 9);
        for (int firm = 0; firm < 3; firm++) {
            y.stand(firm, 9);
        }
        due("1 or 2: the least", y.pool(2), 1);
        y.clause(-20, 9, 9);
        due("0, 1 or 2: the least", y.pool(2), 0);
        y.stand(1, 10);
        due("0 with the others no more", y.pool(2), 1);
        TalkingReels z = fresh();
        z.stand(2, 1);
        due("the empty set, without 2", z.pool(2), 2);
        z.stand(1, 1);
        due("without two of them", z.pool(2), 3);
    }

    private static void constants() {
        Doc.terms(6, "The constants: `NONE = -1`: None.");
        due("NONE", TalkingReels.NONE, -1);
    }

    private static void owe() {
        Doc.promise(30, "A OWES B: true; false if one can't be (themselves).");
        TalkingReels x = fresh();
        x.purse(16, 500);
        due("16 to 17", x.owe(16, 17, 100), true);
        for (int party = 0; party < 20; party++) {
            due("themselves, " + party, x.owe(party, party, 5), false);
            due("themselves, of 0, " + party, x.owe(party, party, 0), false);
        }
        for (int party : new int[] {-1, 20, Integer.MIN_VALUE, Integer.MAX_VALUE}) {
            due(party + " to 16", x.owe(party, 16, 5), false);
            due("16 to " + party, x.owe(16, party, 5), false);
        }
        due("-1", x.owe(16, 17, -1), false);
        due("100000", x.owe(16, 17, 100000), false);
        cleared("as it was", x, 16, 100, 0, 0);
        due("instead", x.owe(16, 17, 300), true);
        due("the other way, too", x.owe(17, 16, 40), true);
        cleared("both", x, 16, 300, 40, 0);
    }

    private static void purse() {
        Doc.promise(31, "The PURSE of a MAKER or the bank: true; false if one can't be.");
        TalkingReels x = fresh();
        x.owe(16, 17, 99999);
        due("of 16", x.purse(16, 700), true);
        Check.range("party", 16, 19, v -> Check.one(x.purse(v, 700)), 1, 0);
        Check.range("v of 18", 0, 99999, v -> Check.one(x.purse(18, v)), 1, 0);
        for (int party : new int[] {0, 8, 15, 20, -1}) {
            due("of " + party, x.purse(party, 700), false);
        }
        due("-1 of 16", x.purse(16, -1), false);
        due("100000 of 16", x.purse(16, 100000), false);
        cleared("as it was", x, 16, 700, 0, 1);
        x.hall(0, 10, 1, 0);
        due("of a HALL that came", x.purse(0, 700), false);
        due("instead", x.purse(16, 1), true);
        cleared("then", x, 16, 1, 0, 1);
    }

    private static void clearWhat() {
        Doc.promise(32, "CLEARING with a FALL, of a PARTY: what 0 what it pays, 1 what comes to it by what all pay in the end, 2 1 "
            + "if it pays less than it OWES, else 0, 3 how many ROUNDS there were, the last one with them.");
        TalkingReels x = fresh();
        x.owe(16, 17, 100);
        x.owe(17, 18, 100);
        x.purse(16, 40);
        long[][] due = {{40, 0, 1, 3}, {40, 40, 1, 3}, {0, 40, 0, 3}, {0, 0, 0, 3}};
        for (int i = 0; i < 4; i++) {
            for (int what = 0; what <= 3; what++) {
                due("party " + (16 + i) + " what " + what, x.clear(0, 16 + i, what), due[i][what]);
                due("again, with a FALL of 100", x.clear(100, 16 + i, what), what == 3 ? 3 : what == 2 && i < 2 ? 1 : 0);
            }
        }
        x.purse(16, 100);
        due("all is paid", x.clear(0, 16, 2), 0);
        due("one ROUND", x.clear(0, 0, 3), 1);
        x.purse(16, 99);
        due("one less than all", x.clear(0, 16, 2), 1);
    }

    private static void clearNone() {
        Doc.promise(32, "NONE if one can't be, or another what.");
        TalkingReels x = fresh();
        Check.range("fall", 0, 100, v -> x.clear(v, 3, 0), 0, -1);
        Check.range("fall, what 3", 0, 100, v -> x.clear(v, 3, 3), 1, -1);
        Check.range("party", 0, 19, v -> x.clear(0, v, 0), 0, -1);
        Check.range("party, what 3", 0, 19, v -> x.clear(0, v, 3), 1, -1);
        Check.range("what", 0, 2, v -> v == 3 ? -1 : x.clear(0, 3, v), 0, -1);
        due("what 4", x.clear(0, 3, 4), -1);
    }

    private static void clauseNumber() {
        Doc.promise(33, "A CLAUSE, by what it is worth to the three FIRMS: its number; NONE if one can't be, or there are nine.");
        TalkingReels x = fresh();
        due("can't be", x.clause(1, 100, 1), -1);
        due("none was there", x.pool(0), 0);
        for (int i = 0; i < 9; i++) {
            due("clause " + i, x.clause(i + 1, 20 - i, 30), i);
        }
        due("there are nine", x.clause(99, 99, 99), -1);
        due("all nine", x.pool(0), 511);
        due("to 0", x.pool(10), 45);
        due("to 1", x.pool(11), 180 - 36);
        due("to 2", x.pool(12), 270);
    }

    private static void stand() {
        Doc.promise(34, "A FIRM's STAND: true; false if one can't be.");
        TalkingReels x = fresh();
        x.clause(-5, 9, 9);
        due("-5", x.stand(0, -5), true);
        due("it SIGNS", x.pool(0), 1);
        for (int firm : new int[] {-1, 3, Integer.MIN_VALUE, Integer.MAX_VALUE}) {
            due("firm " + firm, x.stand(firm, 0), false);
        }
        for (int v : new int[] {-1000, 1000, Integer.MIN_VALUE, Integer.MAX_VALUE}) {
            due("a STAND of " + v, x.stand(0, v), false);
        }
        due("as it was", x.pool(0), 1);
        due("instead", x.stand(0, -4), true);
        due("it does not SIGN", x.pool(0), 0);
    }

    private static void poolWhat() {
        Doc.promise(35, "What 0 THE POOL (NONE),");
        TalkingReels x = fresh();
        x.clause(4, 5, 6);
        due("a POOL", x.pool(0), 1);
        x.stand(0, 5);
        due("none", x.pool(0), -1);
        x.clause(1, 0, 0);
        due("a POOL again", x.pool(0), 3);
    }

    private static void poolWorth() {
        Doc.promise(35, "1 what it is worth to all three (0 without),");
        TalkingReels x = fresh();
        due("the empty one", x.pool(1), 0);
        x.clause(4, 5, 6);
        due("of one", x.pool(1), 15);
        x.stand(0, 5);
        due("without", x.pool(1), 0);
        x.stand(0, 4);
        x.stand(1, -99);
        x.clause(0, -99, 98);
        due("not one that is worth less", x.pool(1), 15);
        TalkingReels y = fresh();
        y.clause(5, -9, -9);
        y.stand(0, 5);
        y.stand(1, -9);
        y.stand(2, -9);
        due("below 0", y.pool(1), -13);
        for (int i = 1; i < 9; i++) {
            y.clause(99, 99, 99);
        }
        y.stand(0, 8 * 99);
        due("the greatest", y.pool(1), 8 * 297);
    }

    private static void poolShutOut() {
        Doc.promise(35, "2 who is SHUT OUT (NONE with a POOL; 3 if no two SIGN),");
        TalkingReels x = fresh();
        due("a POOL", x.pool(2), -1);
        x.stand(1, 1);
        due("without 1", x.pool(2), 1);
        x.stand(0, 1);
        due("no two", x.pool(2), 3);
        x.stand(2, 1);
        due("no one", x.pool(2), 3);
        x.clause(1, 1, 1);
        due("a POOL again", x.pool(2), -1);
    }

    private static void poolOfAFirm() {
        Doc.promise(35, "10 + f what THE POOL is worth to FIRM f (0 without).");
        TalkingReels x = fresh();
        for (int firm = 0; firm < 3; firm++) {
            due("of the empty one", x.pool(10 + firm), 0);
        }
        x.clause(4, -5, 6);
        x.clause(1, 9, -2);
        x.clause(-9, -9, -9);
        due("to 0", x.pool(10), 5);
        due("to 1", x.pool(11), 4);
        due("to 2", x.pool(12), 4);
        x.stand(2, 99);
        for (int firm = 0; firm < 3; firm++) {
            due("without", x.pool(10 + firm), 0);
        }
    }

    private static void poolNone() {
        Doc.promise(35, "NONE for another what.");
        TalkingReels x = fresh();
        x.clause(4, 5, 6);
        for (int what : new int[] {-1, 3, 9, 13, Integer.MIN_VALUE, Integer.MAX_VALUE}) {
            due("pool(" + what + ")", x.pool(what), -1);
        }
    }

    private static void lookWhat() {
        Doc.promise(36, "What 0 NOW, 1 PICTURES, 2 PRINTS, 3 EVENTS, 4 HALLS, 5 SETS, 6 CROWDS, 7 all lookers, 8 players in all "
            + "BANDS, 9 PRINTS of a WEAR of 12, 10 lines of RULES of all FIRMS.");
        TalkingReels x = fresh();
        x.picture(0, 5, 0, 3, 100);
        for (int i = 0; i < 6; i++) {
            if (i < 2) {
                x.print(0);
            }
            if (i < 3) {
                x.event(0, 1, 0, 1);
            }
            if (i < 4) {
                x.hall(0, 10, 1, 40 - i);
            }
            if (i < 5) {
                x.set(0, 7, 0);
            }
            x.crowd(0, 0, 0, 5, 9);
        }
        x.book(0, 0);
        Check.rules(x, 0, "fee 1; fee 2;");
        Check.rules(x, 1, "keep 1; fee 2;");
        Check.rules(x, 2, "bar 1 < 1;");
        x.weeks(11);
        due("none of a WEAR of 12", x.look(9), 0);
        x.weeks(1);
        x.book(0, -1);
        x.book(1, 1);
        x.weeks(1);
        long[] due = {13, 1, 2, 3, 4, 5, 6, 13 * 30, 40 + 39 + 38 + 37, 1, 5};
        for (int what = 0; what < due.length; what++) {
            due("look(" + what + ")", x.look(what), due[what]);
        }
        x.asks(0, 1, 0);
        due("players now", x.look(8), 39 + 38 + 37);
        due("lookers of gone PRINTS count", x.of(0, 5) + x.of(1, 5), 13 * 30);
    }

    private static void lookOfAFullObject() {
        Doc.promise(36, "1 PICTURES, 2 PRINTS, 3 EVENTS, 4 HALLS, 5 SETS, 6 CROWDS, 7 all lookers,");
        TalkingReels x = fresh();
        for (int i = 0; i < 150; i++) {
            if (i < 12) {
                x.picture(0, 5, 0, 3, 100);
            }
            if (i < 30) {
                x.print(i % 12);
            }
            if (i < 16) {
                x.hall(i % 4, 10, 1, 40);
                x.book(i, i);
                x.crowd(i % 4, 0, 0, 5, 9);
            }
            if (i < 20) {
                x.set(0, 7, 0);
            }
            x.event(0, 1, 0, 1);
        }
        for (int firm = 0; firm < 3; firm++) {
            Check.rules(x, firm, "fee 1;".repeat(20));
        }
        x.weeks(12);
        long[] due = {12, 12, 30, 150, 16, 20, 16, 12 * 16 * 5, 16 * 40, 16, 60};
        for (int what = 0; what < due.length; what++) {
            due("look(" + what + ")", x.look(what), due[what]);
        }
        due("the last CROWD heard it", x.heard(15, 0), 3);
        x.book(15, -1);
        due("another PRINT for the last HALL", x.book(29, 15), true);
        x.weeks(1);
        due("one CROWD of its TOWN after the other", x.look(7), 12 * 16 * 5 + 4 * 5);
        due("the last HALL", x.of(15, 1), 20);
    }

    private static void lookNone() {
        Doc.promise(36, "NONE for another what.");
        for (int what : new int[] {-1, 11, Integer.MIN_VALUE, Integer.MAX_VALUE}) {
            due("look(" + what + ")", fresh().look(what), -1);
        }
    }
}
