/** Promises 1 to 6: a new object, PICTURES, PRINTS and their EVENTS, LEAD and OFF. */
public final class PicturesTest {

    public static void main(String[] args) {
        newObject();
        picture();
        picturesAreTwelve();
        print();
        event();
        eventsAreOneHundredAndFifty();
        lead();
        leadAsKnown();
        off();
        noDisc();
        Check.finish();
    }

    private static void newObject() {
        TalkingReels x = new TalkingReels();
        for (int what = 0; what <= 10; what++) {
            Check.due("new: look(" + what + ")", x.look(what), 0);
        }
        Check.due("new: fault(0)", x.fault(0), 0);
        Check.due("new: fault(1)", x.fault(1), -1);
        Check.due("new: at(0, 0)", x.at(0, 0), -1);
        Check.due("new: of(0, 0)", x.of(0, 0), -1);
        Check.due("new: heard(0, 0)", x.heard(0, 0), -99);
        Check.due("new: stage(1, 0)", x.stage(1, 0), -1);
        Check.due("new: faces(1, 0, 0)", x.faces(1, 0, 0), -1);
        Check.due("new: wire(1, 0)", x.wire(1, 0), -1);
        Check.due("new: clear(0, 0, 3)", x.clear(0, 0, 3), 1);
        Check.due("new: pool(0)", x.pool(0), 0);
        Check.due("new: end(0)", x.end(0), true);
        Check.due("new: end(1)", x.end(1), false);
    }

    private static void picture() {
        TalkingReels x = new TalkingReels();
        int[][] cannotBe = {
            {-1, 0, 0, 0, 100}, {3, 0, 0, 0, 100}, {0, -1, 0, 0, 100}, {0, 6, 0, 0, 100}, {0, 6, 0, 3, 100},
            {0, 0, -1, 0, 100}, {0, 0, 4, 0, 100}, {0, 0, 0, -1, 100}, {0, 0, 0, 4, 100}, {0, 5, 0, 4, 100},
            {0, 0, 0, 0, 99}, {0, 0, 0, 0, 10000}, {0, 0, 0, 3, 100}, {0, 5, 0, 0, 100}, {0, 5, 0, 2, 100},
            {Integer.MIN_VALUE, 0, 0, 0, 100}, {0, 0, 0, 0, Integer.MAX_VALUE}};
        for (int[] p : cannotBe) {
            Check.due("picture that can't be", x.picture(p[0], p[1], p[2], p[3], p[4]), -1);
        }
        Check.due("none came", x.look(1), 0);
        Check.due("picture least", x.picture(0, 0, 0, 0, 100), 0);
        Check.due("picture greatest", x.picture(2, 4, 3, 2, 9999), 1);
        Check.due("picture silent", x.picture(2, 5, 3, 3, 9999), 2);
        Check.due("look(1)", x.look(1), 3);
    }

    private static void picturesAreTwelve() {
        TalkingReels x = new TalkingReels();
        for (int i = 0; i < 12; i++) {
            Check.due("picture " + i, x.picture(0, 0, 0, 0, 100), i);
        }
        Check.due("picture 12", x.picture(0, 0, 0, 0, 100), -1);
        Check.due("look(1)", x.look(1), 12);
    }

    private static void print() {
        TalkingReels x = new TalkingReels();
        Check.due("print(0) of nothing", x.print(0), -1);
        x.picture(0, 0, 0, 0, 100);
        x.picture(0, 5, 0, 3, 100);
        Check.due("print(-1)", x.print(-1), -1);
        Check.due("print(2)", x.print(2), -1);
        for (int i = 0; i < 30; i++) {
            Check.due("print " + i, x.print(i % 2), i);
        }
        Check.due("print 30", x.print(0), -1);
        Check.due("look(2)", x.look(2), 30);
        Check.due("at(29, 0)", x.at(29, 0), 1);
        Check.due("at(29, 1)", x.at(29, 1), 0);
        Check.due("at(29, 2)", x.at(29, 2), -1);
    }

    private static void event() {
        TalkingReels x = new TalkingReels();
        x.picture(0, 0, 0, 0, 100);
        x.print(0);
        int[][] cannotBe = {
            {-1, 0, 0, 1}, {1, 0, 0, 1}, {0, -1, 0, 1}, {0, 4, 0, 1}, {0, 0, -1, 1}, {0, 0, 100, 1},
            {0, 0, 0, 0}, {0, 0, 0, 100}, {0, 0, 0, -1}, {0, 1, 0, 0}, {0, 1, 0, 100},
            {0, 2, 0, 0}, {0, 2, 0, 10}, {0, 2, 0, -10}, {0, 3, 1, 5}, {0, 3, 0, 100}, {0, 3, 0, -100}, {0, 3, -1, 0}};
        for (int[] e : cannotBe) {
            Check.due("event that can't be", x.event(e[0], e[1], e[2], e[3]), -1);
        }
        Check.due("none was told", x.look(3), 0);
        int[][] canBe = {
            {0, 0, 0, 1}, {0, 0, 99, 99}, {0, 1, 0, 1}, {0, 1, 99, 99}, {0, 2, 0, -9}, {0, 2, 99, 9},
            {0, 2, 5, -1}, {0, 3, 0, -99}, {0, 3, 0, 99}, {0, 3, 0, 0}};
        for (int i = 0; i < canBe.length; i++) {
            Check.due("event " + i, x.event(canBe[i][0], canBe[i][1], canBe[i][2], canBe[i][3]), i + 1);
        }
        Check.due("look(3)", x.look(3), canBe.length);
    }

    private static void eventsAreOneHundredAndFifty() {
        TalkingReels x = new TalkingReels();
        x.picture(0, 0, 0, 0, 100);
        x.print(0);
        x.print(0);
        for (int i = 0; i < 150; i++) {
            Check.due("event " + i, x.event(i % 2, 1, i % 100, 1), i + 1);
        }
        Check.due("event 150", x.event(0, 1, 0, 1), -1);
        Check.due("event 150 of the other", x.event(1, 1, 0, 1), -1);
        Check.due("look(3)", x.look(3), 150);
        Check.due("lead(0, 99, 0)", x.lead(0, 99, 0), 75);
    }

    private static void lead() {
        TalkingReels x = new TalkingReels();
        x.picture(0, 0, 0, 0, 100);
        x.print(0);
        x.print(0);
        x.event(0, 0, 10, 7);
        x.event(0, 1, 20, 5);
        x.event(0, 2, 30, 2);
        x.event(0, 2, 40, -3);
        Check.due("lead before all", x.lead(0, 9, 0), 0);
        Check.due("lead at the TEAR", x.lead(0, 10, 0), -7);
        Check.due("lead at the BLACK", x.lead(0, 20, 0), -2);
        Check.due("lead at the SKIP", x.lead(0, 30, 0), 64);
        Check.due("lead at the SKIP back", x.lead(0, 99, 0), -35);
        Check.due("lead of the other", x.lead(1, 99, 0), 0);
        x.event(0, 3, 0, 50);
        x.event(0, 3, 0, -20);
        Check.due("lead with the latest START", x.lead(0, 0, 0), -20);
        Check.due("lead with both", x.lead(0, 30, 0), 44);
        int[][] cannotBe = {{-1, 0, 0}, {2, 0, 0}, {0, -1, 0}, {0, 100, 0}, {0, 0, -1}, {0, 0, 1}};
        for (int[] l : cannotBe) {
            Check.due("lead that can't be", x.lead(l[0], l[1], l[2]), -9999);
        }
    }

    private static void leadAsKnown() {
        TalkingReels x = new TalkingReels();
        x.picture(0, 0, 0, 0, 100);
        x.print(0);
        x.event(0, 3, 0, 9);
        x.event(0, 0, 50, 5);
        x.weeks(2);
        x.event(0, 3, 0, -1);
        x.event(0, 1, 50, 2);
        x.weeks(1);
        Check.due("lead as known at 0", x.lead(0, 50, 0), 4);
        Check.due("lead as known at 1", x.lead(0, 50, 1), 4);
        Check.due("lead as known at 2", x.lead(0, 50, 2), -4);
        Check.due("lead as known at 3", x.lead(0, 50, 3), -4);
        Check.due("lead as known at 4", x.lead(0, 50, 4), -9999);
        Check.due("off as known at 1", x.off(0, 1), 0);
        Check.due("off as known at 2", x.off(0, 2), 50);
        Check.due("off as known at 4", x.off(0, 4), -1);
    }

    private static void off() {
        TalkingReels x = new TalkingReels();
        x.picture(0, 0, 0, 0, 100);
        for (int i = 0; i < 5; i++) {
            x.print(0);
        }
        x.event(0, 1, 10, 3);
        Check.due("off at 3", x.off(0, 0), -1);
        x.event(0, 1, 70, 1);
        Check.due("off above 3", x.off(0, 0), 70);
        x.event(1, 0, 10, 3);
        Check.due("off at -3", x.off(1, 0), -1);
        x.event(1, 0, 60, 1);
        Check.due("off below -3", x.off(1, 0), 60);
        x.event(2, 1, 80, 9);
        x.event(2, 0, 40, 9);
        Check.due("off at the lesser FRAME", x.off(2, 0), 40);
        x.event(2, 1, 40, 8);
        Check.due("off with two at one FRAME", x.off(2, 0), 80);
        x.event(3, 3, 0, 4);
        x.event(3, 0, 1, 4);
        Check.due("off from the START", x.off(3, 0), 0);
        Check.due("off without", x.off(4, 0), -1);
        int[][] cannotBe = {{-1, 0}, {5, 0}, {0, -1}, {0, 1}};
        for (int[] o : cannotBe) {
            Check.due("off that can't be", x.off(o[0], o[1]), -1);
        }
    }

    private static void noDisc() {
        TalkingReels x = new TalkingReels();
        x.picture(0, 0, 0, 1, 100);
        x.picture(0, 0, 0, 2, 100);
        x.picture(0, 5, 0, 3, 100);
        for (int i = 0; i < 3; i++) {
            x.print(i);
            Check.due("event of no DISC", x.event(i, 0, 0, 99), i + 1);
            Check.due("lead of no DISC", x.lead(i, 0, 0), 0);
            Check.due("off of no DISC", x.off(i, 0), -1);
            Check.due("lead of no DISC that can't be", x.lead(i, 100, 0), -9999);
        }
    }
}
