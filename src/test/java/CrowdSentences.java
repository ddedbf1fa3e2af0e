/** The sentences of section 4 of the terms and of promises 17 to 22, each with a test of its own. */
final class CrowdSentences {
    private CrowdSentences() {
    }

    static void ask() {
        crowds();
        worths();
        goings();
        money();
        words();
        crowdNumber();
        worthNow();
        worthWithoutAPrintThatRuns();
        worthInAnotherTown();
        worthTooDear();
        worthNone();
        heard();
        heardNone();
        weeks();
        weeksNone();
        weeksAbove199();
        of();
        ofNone();
        at();
        atNone();
    }

    private static void crowds() {
        crowdsAsTheyCome();
        town();
        tongue();
        taste();
        many();
        purse();
        heardAtFirst();
    }

    private static void worths() {
        worthOfWhat();
        ownTongue();
        silent();
        ownTaste();
        worthByHeard();
        worthWithAnOff();
    }

    private static void goings() {
        byNumber();
        greatestWorth();
        leastPrice();
        placesLeft();
        whoIsLeft();
    }

    private static void money() {
        coinOfLookers();
        wearBehind();
        hireAndPlayers();
        keep();
    }

    private static void words() {
        wordsInOrder();
        oneMore();
        oneLess();
        nowIsOneMore();
    }

    private static void due(String call, long got, long want) {
        Check.due(call, got, want);
    }

    private static TalkingReels fresh() {
        return new TalkingReels();
    }

    /** PICTURE 0 in TONGUE 1 of TASTE 2 on a DISC; 1 the same of TASTE 0; 2 SILENT of TASTE 2; 3 in TONGUE 0 of TASTE 0. */
    private static TalkingReels pictures() {
        TalkingReels x = fresh();
        x.picture(0, 1, 2, 0, 100);
        x.picture(0, 1, 0, 0, 100);
        x.picture(0, 5, 2, 3, 100);
        x.picture(0, 0, 0, 0, 100);
        return x;
    }

    /** A HALL of TOWN 0 with a player, a SET that plays all for nothing, and a new PRINT of a PICTURE. */
    private static int house(TalkingReels x, int seats, int price, int picture) {
        int hall = x.hall(0, seats, price, 1);
        x.hire(x.set(0, 7, 0), hall);
        x.book(x.print(picture), hall);
        return hall;
    }

    /** PICTURE 0 in a HALL of 10 SEATS at a PRICE of 10. */
    private static TalkingReels one() {
        TalkingReels x = pictures();
        house(x, 10, 10, 0);
        return x;
    }

    private static void crowdsAsTheyCome() {
        Doc.terms(4, "CROWDS 0 .. 15 as they come:");
        TalkingReels x = fresh();
        for (int i = 0; i < 16; i++) {
            due("one that can't be takes no number", x.crowd(0, 0, 4, 0, 0), -1);
            due("crowd " + i, x.crowd(i % 4, i % 5, i % 4, i, i), i);
        }
        due("no seventeenth", x.crowd(0, 0, 0, 0, 0), -1);
    }

    private static void town() {
        Doc.terms(4, "a TOWN 0 .. 3,");
        Check.range("town", 0, 3, v -> fresh().crowd(v, 0, 0, 0, 0), 0, -1);
    }

    private static void tongue() {
        Doc.terms(4, "a TONGUE 0 .. 4,");
        Check.range("tongue", 0, 4, v -> fresh().crowd(0, v, 0, 0, 0), 0, -1);
    }

    private static void taste() {
        Doc.terms(4, "a TASTE 0 .. 3,");
        Check.range("taste", 0, 3, v -> fresh().crowd(0, 0, v, 0, 0), 0, -1);
    }

    private static void many() {
        Doc.terms(4, "MANY 0 .. 9999,");
        Check.range("many", 0, 9999, v -> fresh().crowd(0, 0, 0, v, 0), 0, -1);
        TalkingReels x = pictures();
        house(x, 999, 1, 0);
        house(x, 999, 1, 0);
        x.crowd(0, 1, 2, 9999, 9);
        x.weeks(1);
        due("9999 of them", x.look(7), 9999);
        due("the first is full", x.of(0, 1), 6993);
    }

    private static void purse() {
        Doc.terms(4, "a PURSE 0 .. 99;");
        Check.range("purse", 0, 99, v -> fresh().crowd(0, 0, 0, 0, v), 0, -1);
        TalkingReels x = pictures();
        house(x, 10, 1, 0);
        x.crowd(0, 1, 2, 5, 0);
        x.crowd(0, 1, 2, 5, 99);
        due("a PURSE of 0 pays no PRICE", x.worth(0, 0), -99);
        x.asks(0, 99, 1);
        due("a PURSE of 99 pays each", x.worth(1, 0), 7);
    }

    private static void heardAtFirst() {
        Doc.terms(4, "what they HEARD of each PICTURE (-3 .. 3, 0 at first).");
        TalkingReels x = one();
        x.crowd(0, 1, 2, 5, 99);
        x.weeks(2);
        x.crowd(0, 1, 2, 5, 99);
        x.picture(0, 1, 2, 0, 100);
        due("of the first PICTURE", x.heard(0, 0), 2);
        due("a CROWD that came later", x.heard(1, 0), 0);
        due("a PICTURE that came later", x.heard(0, 4), 0);
        x.weeks(2);
        due("3 at most", x.heard(0, 0), 3);
        due("both", x.heard(1, 0), 3);
    }

    private static void worthOfWhat() {
        Doc.terms(4, "WORTH of a HALL that has a PRINT which RUNS there, for a CROWD of its TOWN with a PURSE of its PRICE "
            + "or more:");
        TalkingReels x = one();
        x.crowd(0, 0, 0, 0, 10);
        x.crowd(0, 0, 0, 0, 9);
        x.crowd(1, 0, 0, 0, 10);
        due("its PRICE", x.worth(0, 0), 0);
        due("one less", x.worth(1, 0), -99);
        due("of another TOWN", x.worth(2, 0), -99);
        Check.rules(x, 0, "bar 1=1;");
        due("its PRINT does not RUN", x.worth(0, 0), -99);
        Check.rules(x, 0, "");
        due("it RUNS again", x.worth(0, 0), 0);
        x.book(0, -1);
        due("no PRINT", x.worth(0, 0), -99);
    }

    private static void ownTongue() {
        Doc.terms(4, "4 if the PICTURE's TONGUE is its own,");
        TalkingReels x = one();
        for (int tongue = 0; tongue < 5; tongue++) {
            x.crowd(0, tongue, 0, 0, 10);
            due("tongue " + tongue, x.worth(tongue, 0), tongue == 1 ? 4 : 0);
        }
    }

    private static void silent() {
        Doc.terms(4, "2 if it is SILENT;");
        TalkingReels x = pictures();
        house(x, 10, 10, 2);
        for (int tongue = 0; tongue < 5; tongue++) {
            x.crowd(0, tongue, 0, 0, 10);
            due("tongue " + tongue, x.worth(tongue, 0), 2);
        }
    }

    private static void ownTaste() {
        Doc.terms(4, "3 more for its TASTE;");
        TalkingReels x = one();
        house(x, 10, 10, 2);
        for (int taste = 0; taste < 4; taste++) {
            x.crowd(0, 1, taste, 0, 10);
            x.crowd(0, 0, taste, 0, 10);
            due("its TONGUE, taste " + taste, x.worth(2 * taste, 0), taste == 2 ? 7 : 4);
            due("not its TONGUE, taste " + taste, x.worth(2 * taste + 1, 0), taste == 2 ? 3 : 0);
            due("SILENT, taste " + taste, x.worth(2 * taste, 1), taste == 2 ? 5 : 2);
        }
    }

    private static void worthByHeard() {
        Doc.terms(4, "and what it HEARD of it;");
        TalkingReels x = one();
        x.crowd(0, 1, 2, 1, 10);
        for (int week = 0; week < 5; week++) {
            due("good words, week " + week, x.worth(0, 0), 7 + Math.min(3, week));
            x.weeks(1);
        }
        TalkingReels y = one();
        y.crowd(0, 1, 0, 1, 10);
        for (int week = 0; week < 5; week++) {
            due("bad words, week " + week, y.worth(0, 0), 4 - Math.min(3, week));
            y.weeks(1);
        }
    }

    private static void worthWithAnOff() {
        Doc.terms(4, "4 less if the PRINT has an OFF as KNOWN NOW.");
        TalkingReels x = one();
        x.crowd(0, 1, 2, 0, 10);
        x.crowd(0, 0, 0, 0, 10);
        x.event(0, 1, 50, 3);
        due("a LEAD of 3", x.worth(0, 0), 7);
        x.event(0, 1, 99, 1);
        due("a LEAD of 4", x.worth(0, 0), 3);
        due("below 0", x.worth(1, 0), -4);
        x.print(0);
        x.event(1, 1, 0, 99);
        x.weeks(1);
        x.event(0, 0, 99, 1);
        due("mended NOW", x.worth(0, 0), 7);
        due("it was OFF before", x.off(0, 0), 99);
    }

    private static void byNumber() {
        Doc.terms(4, "A WEEK: the CROWDS by number:");
        TalkingReels x = pictures();
        house(x, 10, 10, 0);
        house(x, 10, 10, 1);
        x.crowd(0, 1, 1, 70, 10);
        x.crowd(0, 1, 2, 70, 10);
        x.weeks(1);
        due("the first takes the first HALL, though less WORTH to it", x.heard(0, 0), -1);
        due("the second goes to the other one", x.heard(0, 1), -1);
        due("both are full", x.of(0, 1) + x.of(1, 1), 140);
    }

    private static void greatestWorth() {
        Doc.terms(4, "each goes to the HALL with the greatest WORTH above 0");
        TalkingReels x = pictures();
        house(x, 10, 1, 1);
        house(x, 10, 10, 0);
        house(x, 10, 1, 2);
        house(x, 10, 1, 3);
        x.crowd(0, 1, 2, 10, 10);
        x.weeks(1);
        long[] lookers = {0, 10, 0, 0};
        for (int i = 0; i < 4; i++) {
            due("7, not 4, 5 or 0: lookers in " + i, x.of(i, 1), lookers[i]);
        }
        TalkingReels y = pictures();
        house(y, 10, 1, 3);
        y.crowd(0, 1, 2, 10, 10);
        due("a WORTH of 0", y.worth(0, 0), 0);
        y.weeks(1);
        due("nobody goes for 0", y.of(0, 1), 0);
        TalkingReels z = one();
        z.crowd(0, 1, 1, 10, 10);
        z.weeks(3);
        due("a WORTH of 1", z.worth(0, 0), 1);
        z.weeks(1);
        due("they go for 1", z.of(0, 1), 10);
    }

    private static void leastPrice() {
        Doc.terms(4, "(of several that with the least PRICE, then the least number)");
        TalkingReels x = pictures();
        int[] prices = {9, 8, 7, 7, 8};
        for (int price : prices) {
            house(x, 10, price, 0);
        }
        x.crowd(0, 1, 2, 70 + 70 + 70 + 5, 10);
        x.weeks(1);
        long[] lookers = {0, 70, 70, 70, 5};
        for (int i = 0; i < 5; i++) {
            due("lookers in " + i, x.of(i, 1), lookers[i]);
        }
    }

    private static void placesLeft() {
        Doc.terms(4, "that has PLACES left (7 times its SEATS in the WEEK):");
        TalkingReels x = one();
        x.crowd(0, 1, 2, 69, 10);
        x.crowd(0, 1, 2, 1, 10);
        x.crowd(0, 1, 1, 1, 10);
        x.weeks(1);
        due("70 PLACES", x.of(0, 1), 70);
        due("the third said nothing", x.heard(2, 0), 2);
        x.weeks(1);
        due("70 again in the next WEEK", x.of(0, 1), 70);
        TalkingReels y = pictures();
        house(y, 999, 10, 0);
        y.crowd(0, 1, 2, 9999, 10);
        y.weeks(1);
        due("the most PLACES", y.of(0, 1), 6993);
    }

    private static void whoIsLeft() {
        Doc.terms(4, "as many as find PLACES; who is left goes on to the next one so, until none is left or no such HALL is.");
        TalkingReels x = pictures();
        house(x, 10, 10, 0);
        house(x, 20, 10, 2);
        house(x, 30, 10, 1);
        house(x, 999, 10, 3);
        x.crowd(0, 1, 2, 71, 10);
        x.crowd(0, 1, 2, 139, 10);
        x.crowd(0, 1, 2, 9999, 10);
        x.weeks(1);
        long[] lookers = {70, 140, 210, 0};
        for (int i = 0; i < 4; i++) {
            due("lookers in " + i, x.of(i, 1), lookers[i]);
        }
        due("two goings to the second HALL", x.heard(0, 2), 2);
        due("one to the first", x.heard(0, 0), 1);
        due("one to the third", x.heard(0, 1), -1);
        TalkingReels y = pictures();
        house(y, 10, 10, 0);
        house(y, 10, 11, 0);
        y.crowd(0, 1, 2, 70, 20);
        y.weeks(1);
        due("none is left", y.of(1, 1), 0);
        due("one going", y.heard(0, 0), 1);
    }

    private static void coinOfLookers() {
        Doc.terms(4, "Then each HALL, by number: if its PRINT RUNS, COIN is more by the lookers times PRICE, less by FEE,");
        TalkingReels x = one();
        x.asks(0, 10, 0);
        x.crowd(0, 1, 2, 33, 10);
        Check.rules(x, 0, "fee 20; fee 3;");
        Check.rules(x, 2, "fee 5;");
        x.weeks(1);
        due("33 at 10, a FEE of 25", x.of(0, 0), 330 - 25);
        x.asks(0, 11, 0);
        x.weeks(1);
        due("too dear: the FEE alone", x.of(0, 0), 305 - 25);
        Check.rules(x, 1, "bar 1=1;");
        x.weeks(1);
        due("it does not RUN: no FEE", x.of(0, 0), 280);
        Check.rules(x, 1, "fee 9999*11;");
        x.weeks(1);
        due("below 0", x.of(0, 0), 280 - 25 - 99999);
    }

    private static void wearBehind() {
        Doc.terms(4, "and the PRINT's WEAR is 1 more behind all of this;");
        TalkingReels x = one();
        x.asks(0, 10, 0);
        Check.rules(x, 0, "fee 10 + wear; keep wear;");
        x.weeks(1);
        due("FEE and KEEP of a WEAR of 0", x.of(0, 0), -10);
        due("a WEAR of 1, without a looker", x.at(0, 1), 1);
        x.weeks(1);
        due("FEE and KEEP of a WEAR of 1", x.of(0, 0), -10 - 11 - 9);
        x.weeks(9);
        due("a WEAR of 11", x.at(0, 1), 11);
        x.crowd(0, 1, 2, 5, 10);
        x.weeks(1);
        due("it RUNS of 11", x.of(0, 1), 5);
        due("a WEAR of 12", x.at(0, 1), 12);
        x.weeks(1);
        due("it RUNS no more", x.of(0, 1), 0);
        due("12 stay", x.at(0, 1), 12);
        x.print(0);
        due("in no HALL no WEAR", x.at(1, 1), 0);
    }

    private static void hireAndPlayers() {
        Doc.terms(4, "it is less by the HIRE of its SET, 3 for each player,");
        TalkingReels x = fresh();
        x.hall(0, 10, 1, 0);
        x.hall(0, 10, 1, 40);
        x.hall(0, 10, 1, 1);
        x.hire(x.set(0, 1, 99), 0);
        x.hire(x.set(0, 1, 1), 2);
        x.set(0, 1, 50);
        x.weeks(1);
        due("a SET, nobody", x.of(0, 0), -99);
        due("no SET, 40 players", x.of(1, 0), -120);
        due("both", x.of(2, 0), -4);
        x.hire(0, 1);
        x.weeks(2);
        due("its SET has gone", x.of(0, 0), -99);
        due("to this one", x.of(1, 0), -120 - 2 * 219);
    }

    private static void keep() {
        Doc.terms(4, "and, with a PRINT, 9 for each player that the BAND lacks to KEEP (whether it RUNS or not).");
        TalkingReels x = one();
        x.hall(0, 10, 10, 1);
        Check.rules(x, 0, "keep 5;");
        x.weeks(1);
        due("it RUNS, four lack", x.of(0, 0), -3 - 36);
        due("without a PRINT", x.of(1, 0), -3);
        Check.rules(x, 1, "bar 1=1;");
        x.weeks(1);
        due("it is BARRED, four lack", x.of(0, 0), -2 * 39);
        due("no WEAR", x.at(0, 1), 1);
        x.asks(0, 10, 5);
        x.weeks(1);
        due("none lacks", x.of(0, 0), -78 - 15);
        x.asks(0, 10, 6);
        x.weeks(1);
        due("one too many", x.of(0, 0), -93 - 18);
        x.asks(0, 10, 0);
        Check.rules(x, 0, "keep 41;");
        x.weeks(1);
        due("all forty lack", x.of(0, 0), -111 - 360);
    }

    private static void wordsInOrder() {
        Doc.terms(4, "Then words: for each going of a CROWD (some of it to one HALL), in the order in which they went:");
        TalkingReels x = one();
        x.crowd(0, 1, 0, 1, 9);
        x.crowd(0, 1, 2, 1, 10);
        x.weeks(3);
        due("3 by the second alone", x.heard(0, 0), 3);
        x.asks(0, 9, 1);
        x.weeks(1);
        due("the first says less, then the second more", x.heard(0, 0), 3);
        TalkingReels y = one();
        y.crowd(0, 1, 2, 1, 10);
        y.crowd(0, 1, 0, 1, 9);
        y.weeks(3);
        y.asks(0, 9, 1);
        y.weeks(1);
        due("the first says more, which stays, then the second less", y.heard(0, 0), 2);
        TalkingReels z = pictures();
        house(z, 10, 10, 0);
        house(z, 10, 10, 0);
        z.crowd(0, 1, 2, 71, 10);
        z.crowd(0, 1, 2, 0, 10);
        z.weeks(1);
        due("two goings of one CROWD, none of an empty one", z.heard(0, 0), 2);
    }

    private static void oneMore() {
        Doc.terms(4, "all CROWDS of the same TONGUE HEARD 1 more of the PICTURE, if the TASTE was the goers' own and the PRINT "
            + "had no OFF as KNOWN NOW,");
        TalkingReels x = one();
        x.crowd(0, 1, 2, 1, 10);
        x.crowd(3, 1, 0, 0, 0);
        x.crowd(0, 0, 2, 0, 10);
        x.weeks(1);
        due("the goers", x.heard(0, 0), 1);
        due("who speak so, elsewhere", x.heard(1, 0), 1);
        due("another TONGUE", x.heard(2, 0), 0);
        due("another PICTURE", x.heard(0, 1), 0);
        x.event(0, 1, 5, 3);
        x.weeks(1);
        due("a LEAD of 3 is no OFF", x.heard(0, 0), 2);
        TalkingReels y = pictures();
        house(y, 10, 10, 2);
        y.crowd(0, 4, 2, 1, 10);
        y.weeks(1);
        due("of a SILENT one, too", y.heard(0, 2), 1);
    }

    private static void oneLess() {
        Doc.terms(4, "else 1 less (-3 and 3 stay).");
        TalkingReels x = one();
        x.crowd(0, 1, 0, 1, 10);
        x.crowd(0, 1, 1, 0, 10);
        for (int week = 1; week <= 6; week++) {
            x.weeks(1);
            due("another TASTE, the goers, week " + week, x.heard(0, 0), -Math.min(3, week));
            due("another TASTE, who did not go, week " + week, x.heard(1, 0), -Math.min(3, week));
            due("they go, week " + week, x.of(0, 1), 1);
        }
        TalkingReels y = one();
        y.crowd(0, 1, 2, 1, 10);
        for (int week = 1; week <= 6; week++) {
            y.weeks(1);
            due("3 stays, week " + week, y.heard(0, 0), Math.min(3, week));
        }
        y.event(0, 0, 5, 4);
        y.weeks(1);
        due("their TASTE, but an OFF", y.heard(0, 0), 2);
    }

    private static void nowIsOneMore() {
        Doc.terms(4, "NOW is 1 more.");
        TalkingReels x = one();
        x.crowd(0, 1, 2, 1, 10);
        Check.rules(x, 0, "bar week = 2;");
        x.weeks(1);
        due("NOW", x.look(0), 1);
        x.weeks(1);
        due("the WEEK 1 is gone", x.of(0, 1), 1);
        x.weeks(1);
        due("barred in the WEEK 2", x.of(0, 1), 0);
        x.weeks(1);
        due("in the WEEK 3 no more", x.of(0, 1), 1);
        due("NOW", x.look(0), 4);
    }

    private static void crowdNumber() {
        Doc.promise(17, "A CROWD: its number; NONE if one can't be, or there are 16.");
        TalkingReels x = fresh();
        due("can't be", x.crowd(0, 5, 0, 0, 0), -1);
        due("there is none", x.look(6), 0);
        for (int i = 0; i < 16; i++) {
            due("crowd " + i, x.crowd(3, 4, 3, 9999, 99), i);
        }
        due("there are 16", x.crowd(3, 4, 3, 9999, 99), -1);
        due("16 stay", x.look(6), 16);
    }

    private static void worthNow() {
        Doc.promise(18, "WORTH of a HALL for a CROWD, NOW;");
        TalkingReels x = one();
        x.crowd(0, 1, 2, 0, 10);
        Check.rules(x, 0, "bar week = 1 or wear = 3;");
        due("in the WEEK 0", x.worth(0, 0), 7);
        x.weeks(1);
        due("barred in the WEEK 1", x.worth(0, 0), -99);
        x.weeks(1);
        due("in the WEEK 2", x.worth(0, 0), 7);
        x.event(0, 1, 0, 4);
        due("OFF at once", x.worth(0, 0), 3);
        x.weeks(2);
        due("barred by its WEAR", x.worth(0, 0), -99);
    }

    private static void worthWithoutAPrintThatRuns() {
        Doc.promise(18, "-99 if the HALL has no PRINT that RUNS,");
        TalkingReels x = one();
        x.crowd(0, 1, 2, 0, 10);
        x.hall(0, 10, 10, 0);
        due("no PRINT", x.worth(0, 1), -99);
        x.book(0, 1);
        due("no SET", x.worth(0, 1), -99);
        due("gone from there", x.worth(0, 0), -99);
        x.book(0, 0);
        due("it RUNS", x.worth(0, 0), 7);
        x.weeks(12);
        due("worn out", x.worth(0, 0), -99);
    }

    private static void worthInAnotherTown() {
        Doc.promise(18, "is in another TOWN,");
        TalkingReels x = one();
        for (int town = 0; town < 4; town++) {
            x.crowd(town, 1, 2, 0, 99);
            due("town " + town, x.worth(town, 0), town == 0 ? 7 : -99);
        }
    }

    private static void worthTooDear() {
        Doc.promise(18, "too dear,");
        TalkingReels x = one();
        x.crowd(0, 1, 2, 5, 10);
        due("its PURSE", x.worth(0, 0), 7);
        x.asks(0, 11, 1);
        due("one more", x.worth(0, 0), -99);
        x.weeks(1);
        due("nobody comes", x.of(0, 1), 0);
        x.asks(0, 1, 1);
        due("the least PRICE", x.worth(0, 0), 7);
    }

    private static void worthNone() {
        Doc.promise(18, "or one can't be.");
        TalkingReels x = one();
        house(x, 10, 10, 0);
        x.crowd(0, 1, 2, 0, 10);
        x.crowd(0, 1, 2, 0, 10);
        Check.range("crowd", 0, 1, v -> x.worth(v, 0), 7, -99);
        Check.range("hall", 0, 1, v -> x.worth(0, v), 7, -99);
    }

    private static void heard() {
        Doc.promise(19, "What a CROWD HEARD of a PICTURE;");
        TalkingReels x = pictures();
        house(x, 10, 10, 0);
        house(x, 10, 9, 3);
        x.crowd(0, 1, 2, 5, 10);
        x.crowd(0, 0, 1, 5, 10);
        x.weeks(2);
        long[][] due = {{2, 0, 0, 0}, {0, 0, 0, -2}};
        for (int crowd = 0; crowd < 2; crowd++) {
            for (int picture = 0; picture < 4; picture++) {
                due("heard " + crowd + " " + picture, x.heard(crowd, picture), due[crowd][picture]);
            }
        }
    }

    private static void heardNone() {
        Doc.promise(19, "-99 if there is none such.");
        TalkingReels x = one();
        x.crowd(0, 1, 2, 0, 10);
        Check.range("crowd", 0, 0, v -> x.heard(v, 0), 0, -99);
        Check.range("picture", 0, 3, v -> x.heard(0, v), 0, -99);
    }

    private static void weeks() {
        Doc.promise(20, "So many WEEKS (1 .. 20) go: NOW;");
        TalkingReels x = one();
        x.crowd(0, 1, 2, 5, 10);
        due("1", x.weeks(1), 1);
        due("20", x.weeks(20), 21);
        due("2", x.weeks(2), 23);
        due("each of them went", x.of(0, 0), 12 * 50 - 23 * 3);
    }

    private static void weeksNone() {
        Doc.promise(20, "NONE, and nothing is done, if one can't be,");
        TalkingReels x = one();
        x.crowd(0, 1, 2, 5, 10);
        for (int n : new int[] {0, -1, 21, 200, Integer.MIN_VALUE, Integer.MAX_VALUE}) {
            due("weeks(" + n + ")", x.weeks(n), -1);
        }
        due("NOW", x.look(0), 0);
        due("COIN", x.of(0, 0), 0);
        due("WEAR", x.at(0, 1), 0);
        due("words", x.heard(0, 0), 0);
    }

    private static void weeksAbove199() {
        Doc.promise(20, "or NOW would be above 199.");
        TalkingReels x = fresh();
        x.hall(0, 10, 1, 1);
        for (int i = 1; i <= 9; i++) {
            due("20", x.weeks(20), 20 * i);
        }
        due("to 200", x.weeks(20), -1);
        due("to 198", x.weeks(18), 198);
        due("to 200 by 2", x.weeks(2), -1);
        due("198 stays", x.look(0), 198);
        due("nothing was done", x.of(0, 0), -3 * 198);
        due("to 199", x.weeks(1), 199);
        due("to 200 by 1", x.weeks(1), -1);
        due("nothing was done", x.of(0, 0), -3 * 199);
    }

    private static void of() {
        Doc.promise(21, "Of a HALL what 0 its COIN, 1 its lookers in the last WEEK, 2 what it took in it (lookers times PRICE), "
            + "3 its SET, 4 its PRINT (3, 4: NONE without), 5 all lookers.");
        TalkingReels x = pictures();
        x.hall(3, 10, 1, 0);
        int hall = house(x, 10, 10, 0);
        x.crowd(0, 1, 2, 5, 10);
        long[][] due = {{0, 0, 0, 0, 0, 0}, {47, 5, 50, 0, 0, 5}, {94, 5, 50, 0, 0, 10}, {91, 0, 0, 0, 0, 10}};
        for (int week = 0; week < 4; week++) {
            for (int what = 0; what <= 5; what++) {
                due("week " + week + " what " + what, x.of(hall, what), due[week][what]);
                due("the empty one, what " + what, x.of(0, what), what == 3 || what == 4 ? -1 : 0);
            }
            if (week == 2) {
                x.asks(1, 11, 1);
                due("what it took stays", x.of(1, 2), 50);
            }
            x.weeks(1);
        }
        x.hire(0, -1);
        x.book(0, -1);
        due("without a SET", x.of(1, 3), -1);
        due("without a PRINT", x.of(1, 4), -1);
    }

    private static void ofNone() {
        Doc.promise(21, "NONE if there is none such, or another what.");
        TalkingReels x = fresh();
        x.hall(0, 10, 1, 0);
        x.hall(0, 10, 1, 0);
        for (int what = 0; what <= 5; what++) {
            int itsWhat = what;
            Check.range("hall, what " + what, 0, 1, v -> x.of(v, itsWhat), what == 3 || what == 4 ? -1 : 0, -1);
        }
        for (int what : new int[] {-1, 6, Integer.MIN_VALUE, Integer.MAX_VALUE}) {
            due("what " + what, x.of(0, what), -1);
        }
    }

    private static void at() {
        Doc.promise(22, "Of a PRINT what 0 its PICTURE, 1 its WEAR, 2 the HALL where it is (NONE).");
        TalkingReels x = pictures();
        x.print(3);
        x.hall(0, 10, 1, 0);
        int hall = house(x, 10, 10, 2);
        x.weeks(3);
        long[][] due = {{3, 0, -1}, {2, 3, hall}};
        for (int print = 0; print < 2; print++) {
            for (int what = 0; what <= 2; what++) {
                due("at " + print + " " + what, x.at(print, what), due[print][what]);
            }
        }
    }

    private static void atNone() {
        Doc.promise(22, "NONE if there is none such, or another what.");
        TalkingReels x = one();
        x.print(0);
        x.book(1, -1);
        Check.range("print, what 0", 0, 1, v -> x.at(v, 0), 0, -1);
        Check.range("print, what 1", 0, 1, v -> x.at(v, 1), 0, -1);
        for (int what : new int[] {-1, 3, Integer.MIN_VALUE, Integer.MAX_VALUE}) {
            due("what " + what, x.at(0, what), -1);
        }
    }
}
