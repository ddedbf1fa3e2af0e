/** The sentences of section 2 of the terms and of promises 7 to 11, each with a test of its own. */
final class HouseSentences {
    private HouseSentences() {
    }

    static void ask() {
        hallsAsTheyCome();
        town();
        seats();
        price();
        band();
        coin();
        setsAsTheyCome();
        firm();
        plays();
        hireOfASet();
        setInOneHall();
        oneOfEachInAHall();
        printInOneHall();
        hallNumber();
        hallNone();
        asksTrue();
        asksFalse();
        setNumber();
        hireTrue();
        hireFalse();
        bookTrue();
        bookFalse();
        bookFromAnotherHall();
    }

    private static TalkingReels fresh() {
        return new TalkingReels();
    }

    private static void due(String call, long got, long want) {
        Check.due(call, got, want);
    }

    private static void due(String call, boolean got, boolean want) {
        Check.due(call, got, want);
    }

    /** Two HALLS, two SETS, and two PRINTS of a DISC. */
    private static TalkingReels two() {
        TalkingReels x = fresh();
        x.picture(0, 0, 0, 0, 100);
        for (int i = 0; i < 2; i++) {
            x.hall(0, 10, 1, 0);
            x.set(i, 1, 0);
            x.print(0);
        }
        return x;
    }

    private static void hallsAsTheyCome() {
        Doc.terms(2, "HALLS 0 .. 15 as they come:");
        TalkingReels x = fresh();
        for (int i = 0; i < 16; i++) {
            due("one that can't be takes no number", x.hall(4, 10, 1, 0), -1);
            due("hall " + i, x.hall(i % 4, 10 + i, 1 + i, i), i);
        }
        due("no seventeenth", x.hall(0, 10, 1, 0), -1);
    }

    private static void town() {
        Doc.terms(2, "a TOWN 0 .. 3,");
        Check.range("town", 0, 3, v -> fresh().hall(v, 10, 1, 0), 0, -1);
    }

    private static void seats() {
        Doc.terms(2, "SEATS 10 .. 999,");
        Check.range("seats", 10, 999, v -> fresh().hall(0, v, 1, 0), 0, -1);
    }

    private static void price() {
        Doc.terms(2, "a PRICE 1 .. 99,");
        Check.range("price", 1, 99, v -> fresh().hall(0, 10, v, 0), 0, -1);
    }

    private static void band() {
        Doc.terms(2, "a BAND of 0 .. 40 players,");
        Check.range("band", 0, 40, v -> fresh().hall(0, 10, 1, v), 0, -1);
    }

    private static void coin() {
        Doc.terms(2, "COIN (0 at first; it may be below 0).");
        TalkingReels x = fresh();
        x.hall(0, 10, 1, 40);
        due("at first", x.of(0, 0), 0);
        x.weeks(1);
        due("below 0", x.of(0, 0), -120);
        for (int i = 0; i < 9; i++) {
            x.weeks(20);
        }
        x.weeks(18);
        due("far below 0", x.of(0, 0), -120 * 199);
    }

    private static void setsAsTheyCome() {
        Doc.terms(2, "SETS 0 .. 19 as they come:");
        TalkingReels x = fresh();
        for (int i = 0; i < 20; i++) {
            due("one that can't be takes no number", x.set(0, 0, 0), -1);
            due("set " + i, x.set(i % 3, 1 + i % 7, i), i);
        }
        due("no twenty-first", x.set(0, 1, 0), -1);
    }

    private static void firm() {
        Doc.terms(2, "a FIRM 0 .. 2,");
        Check.range("firm", 0, 2, v -> fresh().set(v, 1, 0), 0, -1);
    }

    private static void plays() {
        Doc.terms(2, "what TRACKS it PLAYS (a set 1 .. 7: 1 DISC, 2 WIDTH, 4 SHADE),");
        Check.range("plays", 1, 7, v -> fresh().set(0, v, 0), 0, -1);
        for (int plays = 1; plays <= 7; plays++) {
            for (int track = 0; track < 3; track++) {
                TalkingReels x = fresh();
                x.picture(0, 0, 0, track, 100);
                x.print(0);
                x.hall(0, 10, 1, 0);
                x.hire(x.set(0, plays, 0), 0);
                due("plays " + plays + ", track " + track, x.runs(0, 0, 0), plays / (1 << track) % 2 == 1 ? 0 : 2);
            }
        }
    }

    private static void hireOfASet() {
        Doc.terms(2, "a HIRE 0 .. 99;");
        Check.range("hire", 0, 99, v -> fresh().set(0, 1, v), 0, -1);
        TalkingReels x = two();
        x.hire(x.set(0, 1, 99), 0);
        x.hire(x.set(0, 1, 0), 1);
        x.weeks(1);
        due("a HIRE of 99", x.of(0, 0), -99);
        due("a HIRE of 0", x.of(1, 0), 0);
    }

    private static void setInOneHall() {
        Doc.terms(2, "each in one HALL or none;");
        TalkingReels x = two();
        due("none at first: going to none", x.hire(0, -1), false);
        due("to HALL 0", x.hire(0, 0), true);
        due("to HALL 1", x.hire(0, 1), true);
        due("it is in 1", x.of(1, 3), 0);
        due("and in 0 no more", x.of(0, 3), -1);
        due("to none", x.hire(0, -1), true);
        due("none in 0", x.of(0, 3), -1);
        due("none in 1", x.of(1, 3), -1);
    }

    private static void oneOfEachInAHall() {
        Doc.terms(2, "a HALL has one SET at most, and one PRINT at most,");
        TalkingReels x = two();
        x.hire(0, 0);
        x.book(0, 0);
        due("no second SET", x.hire(1, 0), false);
        due("no second PRINT", x.book(1, 0), false);
        due("the SET stays", x.of(0, 3), 0);
        due("the PRINT stays", x.of(0, 4), 0);
        due("the second PRINT is in no HALL", x.at(1, 2), -1);
        x.hire(0, 1);
        x.book(0, 1);
        due("room for the second SET", x.hire(1, 0), true);
        due("room for the second PRINT", x.book(1, 0), true);
        due("the second SET", x.of(0, 3), 1);
        due("the second PRINT", x.of(0, 4), 1);
    }

    private static void printInOneHall() {
        Doc.terms(2, "a PRINT is in one HALL at most.");
        TalkingReels x = two();
        x.book(0, 0);
        x.book(0, 1);
        due("it is in 1", x.at(0, 2), 1);
        due("1 has it", x.of(1, 4), 0);
        due("0 has none", x.of(0, 4), -1);
    }

    private static void hallNumber() {
        Doc.promise(7, "A HALL: its number;");
        TalkingReels x = fresh();
        due("the first", x.hall(3, 999, 99, 40), 0);
        due("one like it", x.hall(3, 999, 99, 40), 1);
        due("there are two", x.look(4), 2);
        due("80 players", x.look(8), 80);
    }

    private static void hallNone() {
        Doc.promise(7, "NONE if one can't be, or there are 16.");
        TalkingReels x = fresh();
        due("can't be", x.hall(0, 10, 1, 41), -1);
        due("there is none", x.look(4), 0);
        for (int i = 0; i < 16; i++) {
            due("hall " + i, x.hall(0, 10, 1, 1), i);
        }
        due("there are 16", x.hall(0, 10, 1, 1), -1);
        due("16 stay", x.look(4), 16);
        due("16 players stay", x.look(8), 16);
        due("of the last one", x.of(15, 3), -1);
        due("of no seventeenth", x.of(16, 0), -1);
    }

    private static void asksTrue() {
        Doc.promise(8, "A HALL's PRICE and BAND from now on: true;");
        TalkingReels x = two();
        x.hire(0, 0);
        x.book(0, 0);
        x.crowd(0, 0, 1, 5, 99);
        x.weeks(1);
        due("at the PRICE 1", x.of(0, 0), 5);
        due("asks(0, 99, 40)", x.asks(0, 99, 40), true);
        due("what it took before stays", x.of(0, 2), 5);
        x.weeks(1);
        due("at the PRICE 99, with 40 players", x.of(0, 0), 5 + 5 * 99 - 120);
        due("asks the same", x.asks(0, 99, 40), true);
        due("the other one as before", x.of(1, 0), 0);
        due("players", x.look(8), 40);
    }

    private static void asksFalse() {
        Doc.promise(8, "false, and nothing is done, if one can't be.");
        TalkingReels x = two();
        x.asks(0, 50, 20);
        Check.range("hall", 0, 1, v -> Check.one(x.asks(v, 50, 20)), 1, 0);
        Check.range("price", 1, 99, v -> Check.one(x.asks(1, v, 20)), 1, 0);
        Check.range("band", 0, 40, v -> Check.one(x.asks(1, 50, v)), 1, 0);
        due("the last that could be", x.look(8), 60);
        due("a good PRICE with a BAND that can't be", x.asks(0, 60, 41), false);
        due("a good BAND with a PRICE that can't be", x.asks(0, 0, 30), false);
        x.crowd(0, 0, 0, 0, 50);
        x.hire(0, 0);
        x.book(0, 0);
        due("the PRICE is 50", x.worth(0, 0), 7);
        due("the BANDS are 20 and 40", x.look(8), 60);
    }

    private static void setNumber() {
        Doc.promise(9, "A SET: its number; NONE if one can't be, or there are 20.");
        TalkingReels x = fresh();
        due("can't be", x.set(0, 8, 0), -1);
        due("there is none", x.look(5), 0);
        for (int i = 0; i < 20; i++) {
            due("set " + i, x.set(2, 7, 99), i);
        }
        due("there are 20", x.set(2, 7, 99), -1);
        due("20 stay", x.look(5), 20);
        x.hall(0, 10, 1, 0);
        due("the last one", x.hire(19, 0), true);
        due("no twenty-first", x.hire(20, -1), false);
    }

    private static void hireTrue() {
        Doc.promise(10, "A SET goes to a HALL (NONE: to none): true;");
        TalkingReels x = two();
        due("from none to 1", x.hire(1, 1), true);
        due("from 1 to 0", x.hire(1, 0), true);
        due("from 0 to none", x.hire(1, -1), true);
        due("again", x.hire(1, 0), true);
        due("the other one to 1", x.hire(0, 1), true);
        due("0 has", x.of(0, 3), 1);
        due("1 has", x.of(1, 3), 0);
    }

    private static void hireFalse() {
        Doc.promise(10, "false, and nothing is done, if one can't be, it is there (in none, too), or another SET is.");
        TalkingReels x = two();
        due("in none, it is there", x.hire(0, -1), false);
        for (int hall : new int[] {-2, 2, Integer.MIN_VALUE, Integer.MAX_VALUE}) {
            due("hall " + hall, x.hire(0, hall), false);
        }
        due("to 1", x.hire(0, 1), true);
        due("it is in 1", x.of(1, 3), 0);
        due("it is there", x.hire(0, 1), false);
        due("a HALL below NONE", x.hire(0, -2), false);
        due("a HALL above", x.hire(0, 2), false);
        for (int set : new int[] {-1, 2, Integer.MIN_VALUE, Integer.MAX_VALUE}) {
            due("set " + set, x.hire(set, 0), false);
            due("set " + set + " to none", x.hire(set, -1), false);
        }
        x.hire(1, 0);
        due("another is in 1", x.hire(1, 1), false);
        due("another is in 0", x.hire(0, 0), false);
        due("0 has", x.of(0, 3), 1);
        due("1 has", x.of(1, 3), 0);
    }

    private static void bookTrue() {
        Doc.promise(11, "A PRINT goes to a HALL (NONE: to none): true;");
        TalkingReels x = two();
        due("from none to 1", x.book(1, 1), true);
        due("there it is", x.at(1, 2), 1);
        due("from 1 to none", x.book(1, -1), true);
        due("nowhere", x.at(1, 2), -1);
        due("1 has none", x.of(1, 4), -1);
        due("again", x.book(1, 1), true);
        due("a HALL needs no SET for it", x.of(1, 3), -1);
    }

    private static void bookFalse() {
        Doc.promise(11, "false, and nothing is done, if one can't be, it is there (in none, too), or another PRINT is.");
        TalkingReels x = two();
        due("in none, it is there", x.book(0, -1), false);
        due("to 1", x.book(0, 1), true);
        due("it is there", x.book(0, 1), false);
        for (int hall : new int[] {-2, 2, Integer.MIN_VALUE, Integer.MAX_VALUE}) {
            due("hall " + hall, x.book(0, hall), false);
            due("hall " + hall + " from none", x.book(1, hall), false);
        }
        for (int print : new int[] {-1, 2, Integer.MIN_VALUE, Integer.MAX_VALUE}) {
            due("print " + print, x.book(print, 0), false);
            due("print " + print + " to none", x.book(print, -1), false);
        }
        due("another is there", x.book(1, 1), false);
        due("1 has", x.of(1, 4), 0);
        due("0 has none", x.of(0, 4), -1);
        due("the other is nowhere", x.at(1, 2), -1);
        x.book(1, 0);
        due("each where the other is", x.book(1, 1), false);
        due("it stays", x.at(1, 2), 0);
    }

    private static void bookFromAnotherHall() {
        Doc.promise(11, "(From another HALL, too.)");
        TalkingReels x = two();
        x.book(0, 0);
        due("from 0 to 1", x.book(0, 1), true);
        due("it is in 1", x.at(0, 2), 1);
        due("0 is free", x.book(1, 0), true);
        due("1 is not", x.book(1, 1), false);
    }
}
