/** Promises 17 to 22: CROWDS, WORTH, what they HEARD, WEEKS and what comes of them. */
public final class CrowdsTest {

    public static void main(String[] args) {
        crowd();
        worth();
        worthNone();
        weeks();
        choice();
        places();
        lastPlaceAndLastLooker();
        money();
        keepOfAPrintThatDoesNotRun();
        words();
        wordsInOrder();
        offAsKnown();
        wear();
        of();
        at();
        Check.finish();
    }

    private static void crowd() {
        TalkingReels x = new TalkingReels();
        int[][] cannotBe = {
            {-1, 0, 0, 0, 0}, {4, 0, 0, 0, 0}, {0, -1, 0, 0, 0}, {0, 5, 0, 0, 0}, {0, 0, -1, 0, 0}, {0, 0, 4, 0, 0},
            {0, 0, 0, -1, 0}, {0, 0, 0, 10000, 0}, {0, 0, 0, 0, -1}, {0, 0, 0, 0, 100}};
        for (int[] c : cannotBe) {
            Check.due("crowd that can't be", x.crowd(c[0], c[1], c[2], c[3], c[4]), -1);
        }
        for (int i = 0; i < 16; i++) {
            Check.due("crowd " + i, i % 2 == 0 ? x.crowd(0, 0, 0, 0, 0) : x.crowd(3, 4, 3, 9999, 99), i);
        }
        Check.due("crowd 16", x.crowd(0, 0, 0, 0, 0), -1);
        Check.due("look(6)", x.look(6), 16);
        Check.due("heard of no picture", x.heard(0, 0), -99);
        x.picture(0, 0, 0, 0, 100);
        Check.due("heard(15, 0)", x.heard(15, 0), 0);
        Check.due("heard(16, 0)", x.heard(16, 0), -99);
        Check.due("heard(-1, 0)", x.heard(-1, 0), -99);
        Check.due("heard(0, -1)", x.heard(0, -1), -99);
        Check.due("heard(0, 1)", x.heard(0, 1), -99);
    }

    /** A HALL of a TOWN with a player, a SET that plays all, and a PRINT of a PICTURE. */
    private static int house(TalkingReels x, int town, int seats, int price, int picture) {
        int hall = x.hall(town, seats, price, 1);
        x.hire(x.set(0, 7, 0), hall);
        x.book(x.print(picture), hall);
        return hall;
    }

    private static void worth() {
        TalkingReels x = new TalkingReels();
        x.picture(0, 1, 2, 0, 100);
        x.picture(0, 5, 2, 3, 100);
        house(x, 0, 10, 10, 0);
        house(x, 0, 10, 10, 1);
        x.crowd(0, 1, 2, 0, 10);
        x.crowd(0, 1, 0, 0, 99);
        x.crowd(0, 0, 2, 0, 10);
        x.crowd(0, 0, 0, 0, 10);
        int[] talking = {7, 4, 3, 0};
        int[] silent = {5, 2, 5, 2};
        for (int i = 0; i < 4; i++) {
            Check.due("worth of a talking one " + i, x.worth(i, 0), talking[i]);
            Check.due("worth of a silent one " + i, x.worth(i, 1), silent[i]);
        }
        x.event(0, 1, 0, 4);
        for (int i = 0; i < 4; i++) {
            Check.due("worth with an OFF " + i, x.worth(i, 0), talking[i] - 4);
        }
    }

    private static void worthNone() {
        TalkingReels x = new TalkingReels();
        x.picture(0, 1, 2, 0, 100);
        x.crowd(0, 1, 2, 0, 10);
        Check.due("worth of no hall", x.worth(0, 0), -99);
        int hall = house(x, 0, 10, 10, 0);
        Check.due("worth", x.worth(0, hall), 7);
        Check.due("worth(-1, 0)", x.worth(-1, 0), -99);
        Check.due("worth(1, 0)", x.worth(1, 0), -99);
        Check.due("worth(0, -1)", x.worth(0, -1), -99);
        Check.due("worth(0, 1)", x.worth(0, 1), -99);
        x.asks(0, 11, 1);
        Check.due("too dear", x.worth(0, 0), -99);
        x.asks(0, 9, 1);
        Check.due("cheaper", x.worth(0, 0), 7);
        x.crowd(1, 1, 2, 0, 99);
        Check.due("another town", x.worth(1, 0), -99);
        Check.rules(x, 0, "bar 1 = 1;");
        Check.due("barred", x.worth(0, 0), -99);
        Check.rules(x, 0, "");
        x.book(0, -1);
        Check.due("without a print", x.worth(0, 0), -99);
    }

    private static void weeks() {
        TalkingReels x = new TalkingReels();
        Check.due("weeks(0)", x.weeks(0), -1);
        Check.due("weeks(-1)", x.weeks(-1), -1);
        Check.due("weeks(21)", x.weeks(21), -1);
        Check.due("weeks(max)", x.weeks(Integer.MAX_VALUE), -1);
        Check.due("look(0)", x.look(0), 0);
        for (int i = 1; i <= 9; i++) {
            Check.due("weeks(20)", x.weeks(20), 20 * i);
        }
        Check.due("weeks(20) above 199", x.weeks(20), -1);
        Check.due("look(0)", x.look(0), 180);
        Check.due("weeks(19)", x.weeks(19), 199);
        Check.due("weeks(1) above 199", x.weeks(1), -1);
        Check.due("look(0)", x.look(0), 199);
    }

    private static void choice() {
        TalkingReels x = new TalkingReels();
        x.picture(0, 1, 2, 0, 100);
        x.picture(0, 1, 0, 0, 100);
        x.picture(0, 0, 0, 0, 100);
        house(x, 0, 100, 5, 1);
        house(x, 0, 100, 9, 0);
        house(x, 0, 100, 8, 0);
        house(x, 0, 100, 8, 0);
        house(x, 0, 100, 1, 2);
        x.crowd(0, 1, 2, 300, 50);
        x.weeks(1);
        long[] lookers = {0, 0, 300, 0, 0};
        for (int i = 0; i < 5; i++) {
            Check.due("the greatest WORTH, the least PRICE, the least number " + i, x.of(i, 1), lookers[i]);
        }
    }

    private static void places() {
        TalkingReels x = new TalkingReels();
        x.picture(0, 1, 2, 0, 100);
        x.picture(0, 1, 0, 0, 100);
        x.picture(0, 0, 0, 0, 100);
        house(x, 0, 10, 5, 1);
        house(x, 0, 20, 9, 0);
        house(x, 0, 30, 8, 0);
        house(x, 0, 40, 1, 2);
        x.crowd(0, 1, 2, 100, 50);
        x.crowd(0, 1, 2, 200, 50);
        x.crowd(0, 1, 2, 500, 50);
        x.weeks(1);
        long[] lookers = {70, 140, 210, 0};
        for (int i = 0; i < 4; i++) {
            Check.due("lookers " + i, x.of(i, 1), lookers[i]);
            Check.due("took " + i, x.of(i, 2), new long[] {350, 1260, 1680, 0}[i]);
        }
        Check.due("all lookers", x.look(7), 420);
    }

    private static void lastPlaceAndLastLooker() {
        TalkingReels x = new TalkingReels();
        x.picture(0, 1, 2, 0, 100);
        house(x, 0, 10, 1, 0);
        house(x, 0, 10, 2, 0);
        x.crowd(0, 1, 2, 69, 9);
        x.crowd(0, 1, 2, 2, 9);
        x.crowd(0, 1, 2, 70, 9);
        x.weeks(1);
        Check.due("the last place is taken", x.of(0, 1), 70);
        Check.due("one and sixty-nine go on", x.of(1, 1), 70);
        TalkingReels y = new TalkingReels();
        y.picture(0, 1, 2, 0, 100);
        house(y, 0, 10, 1, 0);
        house(y, 0, 10, 2, 0);
        y.crowd(0, 1, 2, 71, 9);
        y.crowd(0, 1, 2, 1, 9);
        y.crowd(0, 1, 2, 0, 9);
        y.crowd(0, 1, 0, 0, 9);
        y.weeks(1);
        Check.due("the last looker goes on, one comes alone", y.of(1, 1), 2);
        Check.due("three goings: who has nobody says nothing", y.heard(0, 0), 3);
    }

    private static void money() {
        TalkingReels x = new TalkingReels();
        x.picture(0, 1, 2, 0, 100);
        x.hall(0, 50, 7, 4);
        x.hall(1, 50, 7, 6);
        x.set(0, 1, 13);
        x.set(0, 1, 17);
        x.hire(0, 0);
        x.hire(1, 1);
        x.print(0);
        x.book(0, 0);
        x.crowd(0, 1, 2, 30, 7);
        Check.rules(x, 0, "fee 20 + wear; keep 10 - wear;");
        x.weeks(1);
        Check.due("coin behind a week", x.of(0, 0), 30 * 7 - 20 - 13 - 12 - 9 * 6);
        Check.due("coin without a print", x.of(1, 0), -17 - 18);
        x.weeks(1);
        Check.due("coin behind two", x.of(0, 0), 111 + 30 * 7 - 21 - 13 - 12 - 9 * 5);
        Check.due("coin below 0", x.of(1, 0), -70);
        Check.due("lookers of the last week", x.of(0, 1), 30);
        Check.due("all its lookers", x.of(0, 5), 60);
        x.asks(0, 7, 40);
        x.weeks(1);
        Check.due("a band above KEEP", x.of(0, 0), 230 + 30 * 7 - 22 - 13 - 120);
        x.asks(0, 8, 0);
        x.hire(1, -1);
        x.weeks(1);
        Check.due("nobody comes, yet it runs", x.of(0, 0), 285 - 23 - 13 - 9 * 7);
        Check.due("no lookers in the last week", x.of(0, 1), 0);
        Check.due("it took nothing", x.of(0, 2), 0);
        Check.due("without a set", x.of(1, 0), -105 - 18);
    }

    private static void keepOfAPrintThatDoesNotRun() {
        TalkingReels x = new TalkingReels();
        x.picture(0, 1, 2, 0, 100);
        x.hall(0, 50, 7, 4);
        x.print(0);
        x.book(0, 0);
        x.crowd(0, 1, 2, 30, 7);
        Check.rules(x, 0, "fee 20; keep 10;");
        x.weeks(1);
        Check.due("less for the KEEP, not the FEE", x.of(0, 0), -12 - 54);
        Check.due("no wear", x.at(0, 1), 0);
        Check.due("no lookers", x.of(0, 1), 0);
        Check.due("no words", x.heard(0, 0), 0);
    }

    private static void words() {
        TalkingReels x = new TalkingReels();
        x.picture(0, 1, 2, 0, 100);
        x.picture(0, 1, 2, 0, 100);
        house(x, 0, 100, 1, 0);
        x.crowd(0, 1, 2, 10, 9);
        x.crowd(3, 1, 0, 10, 9);
        x.crowd(0, 0, 2, 0, 9);
        x.weeks(1);
        Check.due("the goers", x.heard(0, 0), 1);
        Check.due("the same tongue elsewhere", x.heard(1, 0), 1);
        Check.due("another tongue", x.heard(2, 0), 0);
        Check.due("another picture", x.heard(0, 1), 0);
        x.weeks(3);
        Check.due("3 stays", x.heard(0, 0), 3);
        x.event(0, 0, 5, 9);
        Check.due("worth with all", x.worth(0, 0), 6);
        x.weeks(1);
        Check.due("an OFF", x.heard(0, 0), 2);
        Check.due("an OFF elsewhere", x.heard(1, 0), 2);
        x.weeks(5);
        Check.due("down, as long as they go", x.heard(0, 0), -3);
        Check.due("none goes now", x.worth(0, 0), 0);
        Check.due("-3 stays", x.heard(1, 0), -3);
    }

    private static void wordsInOrder() {
        TalkingReels x = new TalkingReels();
        x.picture(0, 1, 2, 0, 100);
        x.picture(0, 1, 0, 0, 100);
        house(x, 0, 10, 5, 0);
        house(x, 0, 10, 5, 1);
        x.crowd(0, 1, 2, 100, 9);
        x.crowd(0, 1, 0, 100, 9);
        x.crowd(0, 1, 1, 0, 9);
        x.weeks(1);
        Check.due("one went to both", x.of(0, 5) + x.of(1, 5), 140);
        Check.due("of the first: liked", x.heard(2, 0), 1);
        Check.due("of the second: not liked, then liked", x.heard(2, 1), 0);
        x.crowd(0, 1, 1, 9999, 9);
        for (int i = 0; i < 4; i++) {
            x.weeks(1);
        }
        Check.due("3 stays, of the first", x.heard(0, 0), 3);
        Check.due("of the second", x.heard(0, 1), 0);
    }

    private static void offAsKnown() {
        TalkingReels x = new TalkingReels();
        x.picture(0, 1, 2, 0, 100);
        house(x, 0, 10, 5, 0);
        x.crowd(0, 1, 2, 10, 9);
        x.weeks(1);
        x.event(0, 2, 50, 1);
        Check.due("known now", x.worth(0, 0), 4);
        x.event(0, 2, 50, -1);
        Check.due("mended now", x.worth(0, 0), 8);
        x.weeks(1);
        Check.due("liked", x.heard(0, 0), 2);
    }

    private static void wear() {
        TalkingReels x = new TalkingReels();
        x.picture(0, 1, 2, 0, 100);
        house(x, 0, 10, 5, 0);
        x.crowd(0, 1, 2, 10, 9);
        x.weeks(12);
        Check.due("worn out", x.at(0, 1), 12);
        Check.due("look(9)", x.look(9), 1);
        Check.due("lookers of twelve weeks", x.of(0, 5), 120);
        x.weeks(3);
        Check.due("it wears no more", x.at(0, 1), 12);
        Check.due("none looks on", x.of(0, 5), 120);
        Check.due("a new print", x.print(0), 1);
        Check.due("of no wear", x.at(1, 1), 0);
        Check.due("look(9)", x.look(9), 1);
    }

    private static void of() {
        TalkingReels x = new TalkingReels();
        x.picture(0, 1, 2, 0, 100);
        house(x, 0, 10, 5, 0);
        x.crowd(0, 1, 2, 10, 9);
        x.weeks(2);
        long[] due = {2 * 50 - 2 * 3, 10, 50, 0, 0, 20};
        for (int what = 0; what < due.length; what++) {
            Check.due("of(0, " + what + ")", x.of(0, what), due[what]);
        }
        x.asks(0, 6, 1);
        Check.due("what it took then", x.of(0, 2), 50);
        Check.due("of(0, 6)", x.of(0, 6), -1);
        Check.due("of(0, -1)", x.of(0, -1), -1);
        Check.due("of(-1, 0)", x.of(-1, 0), -1);
        Check.due("of(1, 0)", x.of(1, 0), -1);
    }

    private static void at() {
        TalkingReels x = new TalkingReels();
        x.picture(0, 1, 2, 0, 100);
        x.picture(0, 1, 2, 0, 100);
        house(x, 0, 10, 5, 1);
        x.weeks(2);
        Check.due("at(0, 0)", x.at(0, 0), 1);
        Check.due("at(0, 1)", x.at(0, 1), 2);
        Check.due("at(0, 2)", x.at(0, 2), 0);
        Check.due("at(0, 3)", x.at(0, 3), -1);
        Check.due("at(0, -1)", x.at(0, -1), -1);
        Check.due("at(-1, 0)", x.at(-1, 0), -1);
        Check.due("at(1, 0)", x.at(1, 0), -1);
    }
}
