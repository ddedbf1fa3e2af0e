/** The sentences of section 5 of the terms and of promises 23 to 29, each with a test of its own. */
final class StudioSentences {
    private StudioSentences() {
    }

    static void ask() {
        versionsAsTheyCome();
        changeOfNights();
        fewestNights();
        firstByVersions();
        personsAsTheyCome();
        fewestPersons();
        leastSetOfPersons();
        needsOfAHall();
        gang();
        leastLoss();
        firstByHalls();
        versionNumber();
        changeTrue();
        stageOfASet();
        stageNone();
        personNumber();
        facesWhat();
        facesNone();
        needsTrue();
        needsFalse();
        wireOfASet();
        wireNone();
    }

    private static TalkingReels fresh() {
        return new TalkingReels();
    }

    private static void due(String call, long got, long want) {
        Check.due(call, got, want);
    }

    private static void due(String call, boolean got, boolean want) {
        Check.due(call, got, want);
    }

    /** So many VERSIONS of one NIGHT each. */
    private static TalkingReels versions(int many) {
        TalkingReels x = fresh();
        for (int i = 0; i < many; i++) {
            x.version(1);
        }
        return x;
    }

    /** HALLS in these TOWNS. */
    private static TalkingReels halls(int... towns) {
        TalkingReels x = fresh();
        for (int town : towns) {
            x.hall(town, 10, 1, 0);
        }
        return x;
    }

    private static void ordered(String what, TalkingReels x, int set, int nights, int... order) {
        due(what, x.stage(set, 0), nights);
        for (int i = 0; i < order.length; i++) {
            due(what + ", made as " + (i + 1), x.stage(set, i + 1), order[i]);
        }
        due(what + ", no more", x.stage(set, order.length + 1), -1);
    }

    private static void wired(String what, TalkingReels x, int set, int loss, int... order) {
        due(what, x.wire(set, 0), loss);
        for (int i = 0; i < order.length; i++) {
            due(what + ", done as " + (i + 1), x.wire(set, i + 1), order[i]);
        }
        due(what + ", no more", x.wire(set, order.length + 1), -1);
    }

    private static void versionsAsTheyCome() {
        Doc.terms(5, "VERSIONS 0 .. 8 as they come need NIGHTS 1 .. 20;");
        Check.range("nights", 1, 20, v -> fresh().version(v), 0, -1);
        TalkingReels x = fresh();
        for (int i = 0; i < 9; i++) {
            due("one that can't be takes no number", x.version(21), -1);
            due("version " + i, x.version(i + 1), i);
            due("its nights", x.stage(1 << i, 0), i + 1);
        }
        due("no tenth", x.version(1), -1);
        due("all nine", x.stage(511, 0), 45);
    }

    private static void changeOfNights() {
        Doc.terms(5, "a CHANGE 0 .. 9 (0 at first) from one to another one.");
        TalkingReels x = versions(2);
        due("0 at first", x.stage(3, 0), 2);
        Check.range("nights", 0, 9, v -> Check.one(x.change(0, 1, v)), 1, 0);
        Check.range("nights back", 0, 9, v -> Check.one(x.change(1, 0, v)), 1, 0);
        due("9 both ways", x.stage(3, 0), 11);
        x.change(0, 1, 0);
        due("one way", x.stage(3, 0), 2);
    }

    private static void fewestNights() {
        Doc.terms(5, "A set of VERSIONS on one stage: the order with the fewest NIGHTS, all CHANGES from one to the next one "
            + "counted;");
        TalkingReels x = versions(3);
        int[][] changes = {{0, 1, 9}, {0, 2, 1}, {1, 0, 1}, {1, 2, 9}, {2, 0, 9}, {2, 1, 2}};
        for (int[] c : changes) {
            x.change(c[0], c[1], c[2]);
        }
        ordered("1, 0, 2", x, 7, 5, 1, 0, 2);
        ordered("0 and 1", x, 3, 3, 1, 0);
        ordered("0 and 2", x, 5, 3, 0, 2);
        ordered("1 and 2", x, 6, 4, 2, 1);
        ordered("1 alone", x, 2, 1, 1);
        TalkingReels y = versions(9);
        for (int a = 0; a < 9; a++) {
            for (int b = 0; b < 9; b++) {
                y.change(a, b, b == (a + 4) % 9 ? 0 : 9);
            }
        }
        y.change(2, 6, 9);
        ordered("a ring of nine, cut open", y, 511, 9, 6, 1, 5, 0, 4, 8, 3, 7, 2);
    }

    private static void firstByVersions() {
        Doc.terms(5, "of several the first by the numbers of VERSIONS.");
        ordered("without CHANGES", versions(9), 511, 9, 0, 1, 2, 3, 4, 5, 6, 7, 8);
        ordered("some of them", versions(9), 0b100101010, 4, 1, 3, 5, 8);
        TalkingReels x = versions(3);
        int[][] changes = {{0, 1, 9}, {0, 2, 1}, {1, 0, 2}, {1, 2, 9}, {2, 0, 9}, {2, 1, 2}};
        for (int[] c : changes) {
            x.change(c[0], c[1], c[2]);
        }
        ordered("0, 2, 1 and 1, 0, 2 need 3", x, 7, 6, 0, 2, 1);
        x.change(2, 1, 3);
        ordered("1, 0, 2 needs less now", x, 7, 6, 1, 0, 2);
    }

    private static void personsAsTheyCome() {
        Doc.terms(5, "PERSONS 0 .. 13 as they come: TONGUES (a set 1 .. 31) and a VOICE 0 .. 9.");
        Check.range("tongues", 1, 31, v -> fresh().person(v, 0), 0, -1);
        Check.range("voice", 0, 9, v -> fresh().person(1, v), 0, -1);
        TalkingReels x = fresh();
        for (int i = 0; i < 14; i++) {
            due("one that can't be takes no number", x.person(0, 0), -1);
            due("person " + i, x.person(1, i % 10), i);
        }
        due("no fifteenth", x.person(1, 0), -1);
    }

    private static void fewestPersons() {
        Doc.terms(5, "FACES for a set of TONGUES (1 .. 31) and a least VOICE: the fewest PERSONS, with that VOICE or more, that "
            + "have all these TONGUES together;");
        TalkingReels x = fresh();
        int[][] persons = {{1, 9}, {2, 9}, {4, 9}, {7, 4}, {24, 5}, {8, 9}, {16, 9}};
        for (int[] p : persons) {
            x.person(p[0], p[1]);
        }
        due("one who has all three", x.faces(7, 4, 0), 1);
        due("three of a greater VOICE", x.faces(7, 5, 0), 3);
        due("one who has more", x.faces(6, 4, 1), 8);
        due("all five, least VOICE 4", x.faces(31, 4, 0), 2);
        due("all five, least VOICE 5", x.faces(31, 5, 0), 4);
        due("all five, least VOICE 6", x.faces(31, 6, 0), 5);
        due("all five, least VOICE 9", x.faces(31, 9, 0), 5);
        Check.range("tongues", 1, 31, v -> x.faces(v, 9, 0) > 0 ? 1 : -1, 1, -1);
    }

    private static void leastSetOfPersons() {
        Doc.terms(5, "of several sets the least as a number (PERSON i counts 2 to the i).");
        TalkingReels x = fresh();
        int[][] persons = {{1, 0}, {2, 5}, {2, 5}, {1, 5}};
        for (int[] p : persons) {
            x.person(p[0], p[1]);
        }
        due("0 and 1", x.faces(3, 0, 1), 3);
        due("1 and 3, not 2 and 3", x.faces(3, 1, 1), 10);
        for (int i = 4; i < 13; i++) {
            x.person(1, 5);
        }
        x.person(4, 9);
        due("the last one alone", x.faces(4, 0, 1), 8192);
        due("0, 1 and the last one", x.faces(7, 0, 1), 8195);
        due("3 and the last one", x.faces(5, 1, 1), 8192 + 8);
    }

    private static void needsOfAHall() {
        Doc.terms(5, "WIRING: a HALL needs WEEKS 1 .. 9, and loses 0 .. 999 in each WEEK till it is done (1 and 0 at first).");
        TalkingReels x = halls(0, 0, 1);
        Check.range("weeks", 1, 9, v -> Check.one(x.needs(0, v, 5)), 1, 0);
        Check.range("loss", 0, 999, v -> Check.one(x.needs(0, 9, v)), 1, 0);
        due("9 WEEKS of 999", x.wire(1, 0), 9 * 999);
        due("0 at first", x.wire(6, 0), 0);
        TalkingReels y = halls(0, 0);
        y.needs(1, 1, 1);
        wired("a WEEK at first: who loses nothing would make it wait", y, 3, 1, 1, 0);
    }

    private static void gang() {
        Doc.terms(5, "One gang begins in TOWN 0; from one TOWN to another one it is as many WEEKS as their numbers differ.");
        for (int town = 0; town < 4; town++) {
            TalkingReels x = halls(town);
            x.needs(0, 1, 10);
            wired("to TOWN " + town, x, 1, 10 * (town + 1), 0);
        }
        for (int a = 0; a < 4; a++) {
            for (int b = 0; b < 4; b++) {
                TalkingReels x = halls(a, b);
                x.needs(0, 1, 999);
                x.needs(1, 1, 1);
                int first = 999 * (a + 1) + a + 1 + Math.abs(a - b) + 1;
                int second = b + 1 + 999 * (b + 1 + Math.abs(a - b) + 1);
                due("TOWNS " + a + " and " + b, x.wire(3, 0), Math.min(first, second));
            }
        }
        TalkingReels x = halls(1, 3, 3);
        x.needs(0, 1, 10);
        x.needs(1, 1, 999);
        x.needs(2, 1, 10);
        wired("it goes on from where it is", x, 7, 4 * 999 + 5 * 10 + 8 * 10, 1, 2, 0);
    }

    private static void leastLoss() {
        Doc.terms(5, "The order of a set of HALLS (1 .. 9 of them): the least loss (of each HALL: what it loses in a WEEK, times "
            + "the WEEKS from the beginning to its end),");
        TalkingReels x = halls(0, 2);
        x.needs(0, 2, 10);
        x.needs(1, 1, 100);
        wired("the far one first", x, 3, 3 * 100 + 7 * 10, 1, 0);
        x.needs(1, 1, 15);
        wired("the near one first", x, 3, 2 * 10 + 5 * 15, 0, 1);
        TalkingReels y = halls(3, 3, 3, 3, 3, 3, 3, 3, 3, 3);
        for (int i = 0; i < 10; i++) {
            y.needs(i, 9, 999);
        }
        wired("nine of the greatest loss", y, 1022, 999 * (9 * 3 + 9 * 45), 1, 2, 3, 4, 5, 6, 7, 8, 9);
        due("not ten", y.wire(1023, 0), -1);
        due("not none", y.wire(0, 0), -1);
    }

    private static void firstByHalls() {
        Doc.terms(5, "of several the first by the numbers of HALLS.");
        wired("without a loss", halls(3, 2, 1, 0), 15, 0, 0, 1, 2, 3);
        TalkingReels x = halls(0, 0, 0);
        x.needs(0, 2, 20);
        x.needs(1, 1, 10);
        x.needs(2, 3, 30);
        wired("all as dear", x, 7, 40 + 30 + 180, 0, 1, 2);
        x.needs(0, 2, 19);
        wired("1, 2, 0 and 2, 1, 0 are the least", x, 7, 10 + 120 + 114, 1, 2, 0);
    }

    private static void versionNumber() {
        Doc.promise(23, "A VERSION: its number; NONE if one can't be, or there are nine.");
        TalkingReels x = fresh();
        due("can't be", x.version(0), -1);
        due("there is none", x.stage(1, 0), -1);
        for (int i = 0; i < 9; i++) {
            due("version " + i, x.version(20), i);
        }
        due("there are nine", x.version(20), -1);
        due("nine, and can't be", x.version(0), -1);
        due("nine stay", x.stage(511, 0), 180);
        due("no tenth", x.stage(512, 0), -1);
    }

    private static void changeTrue() {
        Doc.promise(24, "The CHANGE from a VERSION to another one: true; false if one can't be.");
        TalkingReels x = versions(2);
        due("0 to 1", x.change(0, 1, 5), true);
        due("1 to 0", x.change(1, 0, 4), true);
        for (int v : new int[] {-1, 0, 2, 8, 9, Integer.MIN_VALUE, Integer.MAX_VALUE}) {
            due("0 to " + v, x.change(0, v, 1), false);
            due(v + " to 0", x.change(v, 0, 1), false);
        }
        due("1 to 1", x.change(1, 1, 1), false);
        due("of 10", x.change(1, 0, 10), false);
        due("of -1", x.change(1, 0, -1), false);
        ordered("nothing else was done", x, 3, 6, 1, 0);
        due("told again", x.change(1, 0, 6), true);
        ordered("the other way now", x, 3, 7, 0, 1);
    }

    private static void stageOfASet() {
        Doc.promise(25, "A set of VERSIONS (a number, VERSION i counts 2 to the i; not empty) on one stage: what 0 the fewest "
            + "NIGHTS, 1 .. 9 the VERSION that is made as that one.");
        TalkingReels x = fresh();
        for (int i = 0; i < 9; i++) {
            x.version(1 + i);
            due("it alone", x.stage(1 << i, 0), 1 + i);
            due("it is made first", x.stage(1 << i, 1), i);
        }
        due("the empty set", x.stage(0, 0), -1);
        due("the last one made as the ninth", x.stage(511, 9), 8);
        due("the last one made as the second", x.stage(257, 2), 8);
    }

    private static void stageNone() {
        Doc.promise(25, "NONE if one can't be, or another what.");
        TalkingReels x = versions(3);
        Check.range("set", 1, 7, v -> x.stage(v, 0) > 0 ? 1 : -1, 1, -1);
        Check.range("set, made first", 1, 7, v -> x.stage(v, 1), 0, -1);
        due("one that is not there, too", x.stage(9, 0), -1);
        due("only one that is not there", x.stage(8, 1), -1);
        for (int what : new int[] {-1, 4, 9, 10, Integer.MIN_VALUE, Integer.MAX_VALUE}) {
            due("what " + what + " of three", x.stage(7, what), -1);
        }
        due("the second of one", x.stage(4, 2), -1);
        TalkingReels y = versions(9);
        due("a tenth of nine", y.stage(511, 10), -1);
        due("a set of ten", y.stage(1023, 0), -1);
    }

    private static void personNumber() {
        Doc.promise(26, "A PERSON: the number; NONE if one can't be, or there are 14.");
        TalkingReels x = fresh();
        due("can't be", x.person(32, 0), -1);
        due("can't be", x.person(1, 10), -1);
        due("there is none", x.faces(1, 0, 0), -1);
        for (int i = 0; i < 14; i++) {
            due("person " + i, x.person(31, 9), i);
        }
        due("there are 14", x.person(31, 9), -1);
        due("14 stay", x.faces(31, 9, 2), 14);
    }

    private static void facesWhat() {
        Doc.promise(27, "FACES for TONGUES and a VOICE: what 0 how many, 1 the set, 2 how many sets of so many there are.");
        TalkingReels x = fresh();
        for (int i = 0; i < 14; i++) {
            x.person(1 << i % 5, 3);
        }
        due("five", x.faces(31, 3, 0), 5);
        due("the first five", x.faces(31, 3, 1), 31);
        due("three by three by three by three by two", x.faces(31, 3, 2), 162);
        due("one", x.faces(16, 0, 0), 1);
        due("the first of it", x.faces(16, 0, 1), 16);
        due("two of it", x.faces(16, 0, 2), 2);
    }

    private static void facesNone() {
        Doc.promise(27, "NONE if there are none, one can't be, or another what.");
        TalkingReels x = fresh();
        due("of nobody", x.faces(1, 0, 0), -1);
        x.person(3, 5);
        Check.range("tongues", 1, 3, v -> x.faces(v, 0, 1), 1, -1);
        Check.range("voice", 0, 5, v -> x.faces(3, v, 1), 1, -1);
        Check.range("what", 0, 2, v -> x.faces(3, 5, v), 1, -1);
        x.person(28, 9);
        Check.range("all tongues", 1, 31, v -> x.faces(v, 0, 0) > 0 ? 1 : -1, 1, -1);
        for (int what = 0; what <= 2; what++) {
            due("too great a VOICE for one, what " + what, x.faces(31, 6, what), -1);
            due("a VOICE of 10, what " + what, x.faces(28, 10, what), -1);
            due("no TONGUES, what " + what, x.faces(0, 0, what), -1);
        }
    }

    private static void needsTrue() {
        Doc.promise(28, "What WIRING a HALL needs and loses: true;");
        TalkingReels x = halls(0, 0);
        due("the least", x.needs(0, 1, 0), true);
        due("the greatest", x.needs(1, 9, 999), true);
        due("its loss", x.wire(2, 0), 8991);
        due("told again", x.needs(1, 2, 3), true);
        due("its loss now", x.wire(2, 0), 6);
        due("the other one's", x.wire(1, 0), 0);
    }

    private static void needsFalse() {
        Doc.promise(28, "false, and nothing is done, if one can't be.");
        TalkingReels x = halls(0, 0);
        x.needs(0, 3, 7);
        x.needs(1, 3, 7);
        Check.range("hall", 0, 1, v -> Check.one(x.needs(v, 3, 7)), 1, 0);
        due("of a HALL that is not there", x.needs(2, 1, 1), false);
        due("WEEKS that can't be, a good loss", x.needs(0, 10, 900), false);
        due("WEEKS of 0, a good loss", x.needs(0, 0, 900), false);
        due("good WEEKS, a loss that can't be", x.needs(1, 9, 1000), false);
        due("good WEEKS, a loss below 0", x.needs(1, 9, -1), false);
        due("as before: 0", x.wire(1, 0), 21);
        due("as before: 1", x.wire(2, 0), 21);
    }

    private static void wireOfASet() {
        Doc.promise(29, "WIRING a set of HALLS (a number, HALL i counts 2 to the i): what 0 the least loss, 1 .. 9 the HALL that is "
            + "done as that one.");
        TalkingReels x = halls(0, 1, 2, 3, 0, 1, 2, 3, 0, 1, 2, 3, 0, 1, 2, 3);
        for (int i = 0; i < 16; i++) {
            x.needs(i, 1, i);
            wired("it alone", x, 1 << i, i * (i % 4 + 1), i);
        }
        wired("the first and the last", x, 32769, 15 * 4, 15, 0);
        due("the ninth of nine", x.wire(0b1000000011111111, 9), 0);
    }

    private static void wireNone() {
        Doc.promise(29, "NONE if one can't be, or another what.");
        TalkingReels x = halls(0, 0, 0);
        Check.range("set", 1, 7, v -> x.wire(v, 0), 0, -1);
        Check.range("set, done first", 1, 7, v -> x.wire(v, 1), 0, -1);
        due("one that is not there, too", x.wire(9, 0), -1);
        due("only one that is not there", x.wire(8, 1), -1);
        for (int what : new int[] {-1, 4, 9, 10, Integer.MIN_VALUE, Integer.MAX_VALUE}) {
            due("what " + what + " of three", x.wire(7, what), -1);
        }
        TalkingReels y = halls(0, 0, 0, 0, 0, 0, 0, 0, 0, 0, 0, 0, 0, 0, 0, 0);
        due("nine", y.wire(511, 9), 8);
        due("nine others", y.wire(0b1111111110000000, 9), 15);
        due("a tenth of nine", y.wire(511, 10), -1);
        due("ten", y.wire(1023, 0), -1);
        due("sixteen", y.wire(65535, 1), -1);
        due("a seventeenth", y.wire(65536, 0), -1);
        due("a seventeenth, too", y.wire(65537, 0), -1);
    }
}
