/** Promises 12 to 16: the TAPE, RULES, their FAULTS, and what they say of a PRINT in a HALL. */
public final class RulesTest {

    public static void main(String[] args) {
        feed();
        end();
        rules();
        faults();
        places();
        limits();
        firms();
        values();
        logic();
        deepLogic();
        feeAndKeep();
        barred();
        runs();
        Check.finish();
    }

    private static void feed() {
        TalkingReels x = new TalkingReels();
        for (int i = 1; i <= 30; i++) {
            Check.due("feed " + i, x.feed(0x20202020, 0x20202020, 0x20202020, 0x20202020, 0x20202020), 20 * i);
        }
        Check.due("feed above 600", x.feed(0x62626262, 0, 0, 0, 0), -1);
        Check.due("end(600)", x.end(600), true);
        Check.due("end(581)", x.end(581), true);
        Check.due("feed above 600 by one", x.feed(0, 0, 0, 0, 0), -1);
        Check.due("end(580)", x.end(580), true);
        Check.due("feed up to 600", x.feed(0x20202020, 0x20202020, 0x20202020, 0x20202020, 0x20202062), 600);
        Check.due("rules of blanks and b", x.rules(0), -1);
        Check.due("its place", x.fault(1), 599);
        Check.due("feed of the empty TAPE", x.feed(0x62617220, 0x313d3120, 0x3b20200a, 0x20202020, 0x20202020), 20);
        Check.due("the highest byte first", x.rules(0), 1);
        Check.due("feed of signs above 127", x.feed(-1, -1, -1, -1, -1), 20);
        Check.due("none of them stands", x.rules(0), -1);
        Check.due("at once", x.fault(1), 0);
    }

    private static void end() {
        TalkingReels x = new TalkingReels();
        Check.due("end(-1)", x.end(-1), false);
        Check.due("end(1) of none", x.end(1), false);
        Check.type(x, "bar 1 = 1; fee 1;");
        Check.due("end(18)", x.end(18), false);
        Check.due("end(-1)", x.end(-1), false);
        Check.due("end(min)", x.end(Integer.MIN_VALUE), false);
        Check.due("end(17)", x.end(17), true);
        Check.due("end(10)", x.end(10), true);
        Check.due("end(11)", x.end(11), false);
        Check.due("one line is left", x.rules(0), 1);
    }

    private static void rules() {
        TalkingReels x = new TalkingReels();
        Check.due("rules of an empty TAPE", x.rules(0), 0);
        Check.due("two lines", Check.rules(x, 0, "fee 1; keep 2;"), 2);
        Check.due("the TAPE is empty", x.end(1), false);
        Check.due("look(10)", x.look(10), 2);
        Check.due("a fault", Check.rules(x, 0, "fee 1; keep 2"), -1);
        Check.due("the TAPE is empty behind a fault", x.end(1), false);
        Check.due("they stay", x.look(10), 2);
        Check.due("fault(0)", x.fault(0), 1);
        Check.due("fault(1)", x.fault(1), 13);
        Check.due("fault(2)", x.fault(2), -1);
        Check.due("fault(-1)", x.fault(-1), -1);
        Check.due("no such firm", Check.rules(x, 3, "x"), -1);
        Check.due("the TAPE is empty without a firm", x.end(1), false);
        Check.due("no fault is told", x.fault(0), 0);
        Check.due("nor its place", x.fault(1), -1);
        Check.due("no such firm below", Check.rules(x, -1, "x"), -1);
        Check.rules(x, 0, "x");
        Check.due("a fault again", x.fault(0), 1);
        Check.due("one line", Check.rules(x, 2, " \n\nfee 1\n; \n"), 1);
        Check.due("no fault any more", x.fault(0), 0);
        Check.due("nor a place", x.fault(1), -1);
        Check.due("three lines in all", x.look(10), 3);
        Check.due("no lines", Check.rules(x, 0, "  "), 0);
        Check.due("one line in all", x.look(10), 1);
    }

    private static void fault(String text, int fault, int place) {
        TalkingReels x = new TalkingReels();
        Check.due("rules: " + text, Check.rules(x, 0, text), -1);
        Check.due("fault: " + text, x.fault(0), fault);
        Check.due("its place: " + text, x.fault(1), place);
    }

    private static void faults() {
        fault("x", 1, 0);
        fault(";", 1, 0);
        fault("1", 1, 0);
        fault("fee", 1, 3);
        fault("fee   ", 1, 6);
        fault("fee ;", 1, 4);
        fault("fee (1);", 1, 4);
        fault("fee -1;", 1, 4);
        fault("fee 1 + ;", 1, 8);
        fault("fee 1 1;", 1, 6);
        fault("fee 1 < 2;", 1, 6);
        fault("fee 1 * (2);", 1, 8);
        fault("fee 1 / wear;", 1, 8);
        fault("fee 1 / 0;", 2, 8);
        fault("fee 1 / 0000;", 2, 8);
        fault("fee 1 / 00000;", 1, 8);
        fault("fee 1 / 2 / 0 / 0;", 2, 12);
        fault("fee 1 / 0", 2, 8);
        fault("bar 1 / 0 = ;", 2, 8);
        fault("bar 1 = ;", 1, 8);
        fault("bar 1;", 1, 5);
        fault("bar 1 = 1", 1, 9);
        fault("bar 1 = 1 = 1;", 1, 10);
        fault("bar (1 = 1;", 1, 10);
        fault("bar 1 = 1);", 1, 9);
        fault("bar (1) = 1;", 1, 6);
        fault("bar not;", 1, 7);
        fault("bar 1 = 1 not;", 1, 10);
        fault("bar 1 = 1 and;", 1, 13);
        fault("bar 1 = 1 or or 1 = 1;", 1, 13);
        fault("bar 1 = 1 when 1 = 1;", 1, 10);
        fault("fee 1 when;", 1, 10);
        fault("fee 1 when 1;", 1, 12);
        fault("fee 1 when 1 = 1 when 1 = 1;", 1, 17);
        fault("keep 1 and 1 = 1;", 1, 7);
        fault("fee 1;;", 1, 6);
        fault("fee 1; bar", 1, 10);
    }

    private static void places() {
        fault("fee 12345;", 1, 4);
        fault("fees 1;", 1, 0);
        fault("Fee 1;", 1, 0);
        fault("feE 1;", 1, 0);
        fault("fe e 1;", 1, 0);
        fault("fee wearband;", 1, 4);
        fault("fee weeks;", 1, 4);
        fault("fee framess;", 1, 4);
        fault("fee wea;", 1, 4);
        fault("fee 1\t;", 1, 5);
        fault("fee 1\r;", 1, 5);
        fault("fee 1, 2;", 1, 5);
        fault("bar 1 <= 2;", 1, 7);
        fault("bar 1 ! 2;", 1, 6);
        fault("fee 1x;", 1, 5);
        fault("fee 1 \u00e9;", 1, 6);
        TalkingReels x = new TalkingReels();
        Check.due("no blanks are needed", Check.rules(x, 0, "fee1when1=1and(2>1)or not3<2;keep1+2*3/4-5;bar1=1;"), 3);
        Check.due("fee5", Check.rules(x, 0, "fee\n5\n;"), 1);
        fault(";".repeat(600), 1, 0);
        fault("((((((((((".repeat(60), 1, 0);
        String long600 = "bar 1<1" + "or 1<1".repeat(98) + "    ;";
        Check.due("a text of 600", Check.rules(x, 0, long600), 1);
        String sum600 = "fee 1" + "+1".repeat(297) + ";";
        Check.due("a sum of 600", Check.rules(x, 0, sum600), 1);
        fault("fee 1" + "+1".repeat(297) + "+", 1, 600);
        Check.due("all words", Check.rules(x, 0,
            "fee maker+track+tongue+frames+wear+firm+seats+band+price+week+0+0000+9999;"), 1);
    }

    private static void limits() {
        StringBuilder twenty = new StringBuilder();
        for (int i = 0; i < 20; i++) {
            twenty.append(i % 3 == 0 ? "fee 1;" : i % 3 == 1 ? "keep 1;" : "bar 1<1;");
        }
        TalkingReels x = new TalkingReels();
        Check.due("twenty lines", Check.rules(x, 0, twenty.toString()), 20);
        Check.due("twenty lines of another", Check.rules(x, 2, twenty.toString()), 20);
        Check.due("look(10)", x.look(10), 40);
        fault(twenty + " fee 1;", 3, twenty.length() + 1);
        fault(twenty + "keep;", 3, twenty.length());
        fault(twenty + "bar", 3, twenty.length());
        fault(twenty + "when", 1, twenty.length());
        fault(twenty + "x", 1, twenty.length());
        fault("bar ((((((((1=1)))))))) and (((((((((1=1)))))))));", 3, 36);
        fault("bar not not not not not not not not not 1=1;", 3, 36);
        fault("bar not(not(not(not(not 1=1 and ((((1=1))))))));", 3, 20);
        fault("bar not(not(not(1=1 and (((1=1)))))) ;", 3, 26);
        fault("bar ((((((((1=1 and not 1=1))))))));", 3, 20);
        fault("fee 1 when ((((((((not 1=1))))))));", 3, 19);
        fault("fee (((((((((", 1, 4);
        Check.due("eight ( side by side", Check.rules(x, 0, "bar ((((((((1=1)))))))) and ((((((((1=1))))))));"), 1);
        Check.due("eight not side by side", Check.rules(x, 0,
            "bar not not not not not not not not 1=1 or not not not not not not not not 1=1;"), 1);
        Check.due("a not ends with its C", Check.rules(x, 0,
            "bar not 1=1 and not 1=1 and not 1=1 and not 1=1 and not 1=1 and not 1=1 and not 1=1 and not 1=1 and not 1=1;"), 1);
        Check.due("a not ends with its (", Check.rules(x, 0, "bar not (((((((1=1))))))) and (((((((not 1=1)))))));"), 1);
    }

    /** Each FIRM has RULES of its own. */
    private static void firms() {
        TalkingReels x = scene();
        Check.rules(x, 2, "fee 4;");
        Check.rules(x, 0, "fee 10;");
        Check.due("two fees", x.runs(0, 0, 3), 14);
        Check.rules(x, 1, "fee 100;");
        Check.due("three fees", x.runs(0, 0, 3), 114);
        Check.rules(x, 0, "fee 1 +;");
        Check.due("as it was", x.runs(0, 0, 3), 114);
        Check.rules(x, 0, "");
        Check.due("without the first", x.runs(0, 0, 3), 104);
    }

    /** A DISC in a HALL with a SET of FIRM 1. */
    private static TalkingReels scene() {
        TalkingReels x = new TalkingReels();
        x.picture(2, 3, 1, 0, 4321);
        x.print(0);
        x.hall(1, 321, 45, 17);
        x.set(1, 5, 6);
        x.hire(0, 0);
        return x;
    }

    private static int value(TalkingReels x, String text) {
        Check.due("rules: fee " + text, Check.rules(x, 0, "fee " + text + ";"), 1);
        return x.runs(0, 0, 3);
    }

    private static void values() {
        TalkingReels x = scene();
        Check.due("maker", value(x, "maker"), 2);
        Check.due("track", value(x, "track"), 0);
        Check.due("tongue", value(x, "tongue"), 3);
        Check.due("frames", value(x, "frames"), 4321);
        Check.due("wear", value(x, "wear"), 0);
        Check.due("firm", value(x, "firm"), 1);
        Check.due("seats", value(x, "seats"), 321);
        Check.due("band", value(x, "band"), 17);
        Check.due("price", value(x, "price"), 45);
        Check.due("week", value(x, "week"), 0);
        x.book(0, 0);
        x.weeks(2);
        Check.due("wear", value(x, "wear"), 2);
        Check.due("week", value(x, "week"), 2);
        x.hire(0, -1);
        Check.due("firm without", value(x, "firm"), 3);
        Check.due("7 - 2 - 1", value(x, "7 - 2 - 1"), 4);
        Check.due("2 + 3 * 4 - 1", value(x, "2 + 3 * 4 - 1"), 13);
        Check.due("100 / 7 * 7", value(x, "100 / 7 * 7"), 98);
        Check.due("7 * 100 / 7", value(x, "7 * 100 / 7"), 100);
        Check.due("10 - 100 / 3 + 50", value(x, "10 - 100 / 3 + 50"), 27);
        Check.due("0 - 7 below 0", value(x, "0 - 7"), 0);
        Check.due("(a part of what is below 0 goes towards 0)", value(x, "maker * 0 + 9 - 7 * 3 / 2"), 0);
        Check.due("wraps", value(x, "9999 * 9999 * 9999 * 0 + 9999 * 9999 * 43 / 4000"), 1043);
        Check.rules(x, 1, "bar 9999 * 9999 * 9999 = 0 - 1 - 2000 or 65 * 9999 * 9999 < 0;");
        Check.due("wraps below 0", x.runs(0, 0, 1), 65 * 9999 * 9999 < 0 ? 1 : -1);
        Check.rules(x, 1, "bar 5 * 9999 * 9999 * 9999 / 1000 = " + negative(5 * 9999 * 9999 * 9999 / 1000) + ";");
        Check.due("wraps as ints do", x.runs(0, 0, 1), 1);
        Check.rules(x, 1, "bar 22 * 9999 * 9999 / 1000 = " + negative(22 * 9999 * 9999 / 1000) + ";");
        Check.due("a part below 0 goes towards 0", x.runs(0, 0, 1), 1);
    }

    /** A NUMBER of any size as the grammar can tell it. */
    private static String negative(int v) {
        int high = v / 9999;
        int low = v % 9999;
        String sum = (high < 0 ? "0 - " : "") + told(Math.abs(high)) + " * 9999";
        return sum + (low < 0 ? " - " : " + ") + Math.abs(low);
    }

    private static String told(int v) {
        if (v > 9999) {
            throw new IllegalArgumentException("too large for one NUMBER: " + v);
        }
        return String.valueOf(v);
    }

    private static boolean so(TalkingReels x, String text) {
        Check.due("rules: bar " + text, Check.rules(x, 0, "bar " + text + ";"), 1);
        return x.runs(0, 0, 0) == 4;
    }

    private static void logic() {
        TalkingReels x = scene();
        String yes = "1 = 1";
        String no = "1 = 2";
        Check.due("1 < 1", so(x, "1 < 1"), false);
        Check.due("1 < 2", so(x, "1 < 2"), true);
        Check.due("2 < 1", so(x, "2 < 1"), false);
        Check.due("1 > 1", so(x, "1 > 1"), false);
        Check.due("2 > 1", so(x, "2 > 1"), true);
        Check.due("1 > 2", so(x, "1 > 2"), false);
        Check.due("1 = 1", so(x, yes), true);
        Check.due("1 = 2", so(x, no), false);
        Check.due("0 - 1 < 0", so(x, "0 - 1 < 0"), true);
        Check.due("1 + 1 = 4 - 2", so(x, "1 + 1 = 4 - 2"), true);
        Check.due("no and yes", so(x, no + " and " + yes), false);
        Check.due("yes and no", so(x, yes + " and " + no), false);
        Check.due("yes and yes", so(x, yes + " and " + yes), true);
        Check.due("no or yes", so(x, no + " or " + yes), true);
        Check.due("yes or no", so(x, yes + " or " + no), true);
        Check.due("no or no", so(x, no + " or " + no), false);
        Check.due("yes or yes and no", so(x, yes + " or " + yes + " and " + no), true);
        Check.due("(yes or yes) and no", so(x, "(" + yes + " or " + yes + ") and " + no), false);
        Check.due("no and no or yes", so(x, no + " and " + no + " or " + yes), true);
        Check.due("not no or yes", so(x, "not " + no + " or " + yes), true);
        Check.due("not yes or yes", so(x, "not " + yes + " or " + yes), true);
        Check.due("not (yes or yes)", so(x, "not (" + yes + " or " + yes + ")"), false);
        Check.due("not no and no", so(x, "not " + no + " and " + no), false);
        Check.due("not not yes", so(x, "not not " + yes), true);
        Check.due("not not not yes", so(x, "not not not " + yes), false);
        Check.due("not (not yes)", so(x, "not (not " + yes + ")"), true);
        Check.due("no and no or yes and yes or no", so(x, no + " and " + no + " or " + yes + " and " + yes + " or " + no), true);
    }

    /** As much waits on the way into the eighth ( as can. */
    private static void deepLogic() {
        TalkingReels x = scene();
        String ahead = "1 > 2 or 1 < 2 and (";
        Check.due("deep, and so", so(x, ahead.repeat(8) + "1 = 2 or 1 = 1 and 2 - 1 < 2 + 3 * 4" + ")".repeat(8)), true);
        Check.due("deep, and not so", so(x, ahead.repeat(8) + "1 = 2 or 1 = 1 and 2 + 3 * 4 < 2 - 1" + ")".repeat(8)), false);
        String nots = "not (1 < 2 and (";
        Check.due("not, of what is so", so(x, nots.repeat(2) + "not (1 < 2 and 1 = 1" + ")".repeat(5)), false);
        Check.due("not, of what is not so", so(x, nots.repeat(2) + "not (1 < 2 and 1 = 2" + ")".repeat(5)), true);
        fault("bar " + nots.repeat(2) + "not (1 < 2 and not 1 = 2" + ")".repeat(5) + ";", 3, 51);
    }

    private static void feeAndKeep() {
        TalkingReels x = scene();
        Check.rules(x, 0, "fee 5; fee 9 when 1 = 1; fee 99 when 1 = 2; fee 7; keep 3; keep 8 when 1 = 2; keep 4 when 2 > 1;");
        Check.due("the greatest fee that is so", x.runs(0, 0, 3), 9);
        Check.due("the greatest keep that is so", x.runs(0, 0, 4), 4);
        Check.rules(x, 1, "keep 6; fee 0 - 9;");
        Check.due("the greatest keep of all", x.runs(0, 0, 4), 6);
        Check.due("no fee below 0", x.runs(0, 0, 3), 9);
        Check.rules(x, 2, "keep 41;");
        Check.due("a keep above 40", x.runs(0, 0, 4), 40);
        Check.rules(x, 0, "fee 9999 * 10 + 9;");
        Check.due("a fee of 99999", x.runs(0, 0, 3), 99999);
        Check.rules(x, 0, "fee 9999 * 10 + 10;");
        Check.due("a fee above 99999", x.runs(0, 0, 3), 99999);
        Check.rules(x, 1, "fee 9999 * 9999;");
        Check.rules(x, 2, "fee 1; keep 0 - 5;");
        Check.due("99999 at most of each", x.runs(0, 0, 3), 199999);
        Check.due("a keep below 0", x.runs(0, 0, 4), 0);
        Check.rules(x, 2, "fee 3 when 1 = 2;");
        Check.due("none that is so", x.runs(0, 0, 3), 199998);
    }

    private static void barred() {
        TalkingReels x = scene();
        Check.due("not barred: firm", x.runs(0, 0, 1), -1);
        Check.due("not barred: line", x.runs(0, 0, 2), -1);
        Check.rules(x, 2, "bar 1 = 1;");
        Check.due("barred", x.runs(0, 0, 0), 4);
        Check.due("by 2", x.runs(0, 0, 1), 2);
        Check.due("its line 0", x.runs(0, 0, 2), 0);
        Check.rules(x, 1, "fee 1; bar 1 = 2; keep 1; bar 2 = 2; bar 1 = 1;");
        Check.due("by 1", x.runs(0, 0, 1), 1);
        Check.due("its line 3", x.runs(0, 0, 2), 3);
        Check.rules(x, 0, "bar 1 = 2;");
        Check.due("by 1 still", x.runs(0, 0, 1), 1);
        x.hire(0, -1);
        Check.due("no SET holds first", x.runs(0, 0, 0), 2);
        Check.due("yet it is barred", x.runs(0, 0, 1), 1);
        Check.due("by that line", x.runs(0, 0, 2), 3);
    }

    private static void runs() {
        TalkingReels x = new TalkingReels();
        x.hall(0, 10, 1, 0);
        x.hall(0, 10, 1, 1);
        x.picture(0, 0, 0, 0, 100);
        x.picture(0, 0, 0, 1, 100);
        x.picture(0, 0, 0, 2, 100);
        x.picture(0, 5, 0, 3, 100);
        for (int i = 0; i < 4; i++) {
            x.print(i);
            Check.due("without a SET " + i, x.runs(i, 0, 0), i < 3 ? 2 : 3);
        }
        Check.due("a silent one with a band", x.runs(3, 1, 0), 0);
        for (int plays = 1; plays <= 7; plays++) {
            int set = x.set(0, plays, 0);
            x.hire(set, 0);
            for (int track = 0; track < 3; track++) {
                Check.due("plays " + plays + " track " + track, x.runs(track, 0, 0), (plays >> track & 1) == 1 ? 0 : 2);
            }
            Check.due("silent, nobody in the band", x.runs(3, 0, 0), 3);
            x.hire(set, -1);
        }
        int[][] none = {{-1, 0, 0}, {4, 0, 0}, {0, -1, 0}, {0, 2, 0}, {0, 0, -1}, {0, 0, 5}};
        for (int[] r : none) {
            Check.due("runs of none", x.runs(r[0], r[1], r[2]), -1);
        }
        x.book(3, 1);
        x.weeks(11);
        Check.due("a wear of 11", x.runs(3, 1, 0), 0);
        x.weeks(1);
        Check.due("a wear of 12", x.runs(3, 1, 0), 1);
        Check.due("first of all", x.runs(3, 0, 0), 1);
        Check.rules(x, 0, "bar 1 = 1; fee wear;");
        Check.due("ahead of what bars", x.runs(3, 1, 0), 1);
        Check.due("but barred", x.runs(3, 1, 1), 0);
        Check.due("its fee", x.runs(3, 1, 3), 12);
    }
}
