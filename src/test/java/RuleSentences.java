import java.util.Arrays;

/** The sentences of section 3 of the terms and of promises 12 to 16, each with a test of its own. */
final class RuleSentences {
    private RuleSentences() {
    }

    static void ask() {
        grammar();
        tokens();
        ints();
        faults();
        asked();
        told();
        reasons();
        tape();
        rules();
        fault();
        runs();
    }

    private static void grammar() {
        text();
        line();
        either();
        both();
        single();
        sum();
        product();
        unit();
    }

    private static void tokens() {
        words();
        numbers();
        signs();
        blanks();
    }

    private static void ints() {
        wrap();
        towardsZero();
    }

    private static void faults() {
        firstByPlace();
        leastAtOnePlace();
        cannotStand();
        partByZero();
        line21();
        open9();
    }

    private static void asked() {
        ofThePrint();
        ofTheHall();
        ofTheWeek();
    }

    private static void told() {
        barred();
        fee();
        keep();
    }

    private static void reasons() {
        wornOut();
        noSetThatPlays();
        silentWithoutBand();
        barredIsFour();
        firstReason();
    }

    private static void tape() {
        feed();
        feedNone();
        end();
        endFalse();
    }

    private static void rules() {
        rulesLines();
        rulesOfNoFirm();
        rulesWithAFault();
    }

    private static void fault() {
        faultOfTheLatest();
        faultNone();
    }

    private static void runs() {
        runsWhy();
        runsBarred();
        runsFeeAndKeep();
        runsNone();
    }

    private static void due(String call, long got, long want) {
        Check.due(call, got, want);
    }

    private static void due(String call, boolean got, boolean want) {
        Check.due(call, got, want);
    }

    /** A text of so many lines without a FAULT. */
    private static void fine(String text, int lines) {
        TalkingReels x = new TalkingReels();
        due("rules: " + text, Check.rules(x, 0, text), lines);
        due("fault: " + text, x.fault(0), 0);
        due("place: " + text, x.fault(1), -1);
    }

    private static void wrong(String text, int fault, int place) {
        TalkingReels x = new TalkingReels();
        due("rules: " + text, Check.rules(x, 0, text), -1);
        due("fault: " + text, x.fault(0), fault);
        due("place: " + text, x.fault(1), place);
    }

    /** A DISC in a HALL with a SET of FIRM 1. */
    private static TalkingReels scene() {
        TalkingReels x = new TalkingReels();
        x.picture(2, 3, 1, 0, 4321);
        x.print(0);
        x.hall(1, 321, 45, 17);
        x.set(1, 5, 6);
        x.hire(0, 0);
        return x;
    }

    private static void so(String text, boolean want) {
        TalkingReels x = scene();
        due("rules: bar " + text, Check.rules(x, 0, "bar " + text + ";"), 1);
        due(text, x.runs(0, 0, 0), want ? 4 : 0);
    }

    private static void value(String text, int want) {
        TalkingReels x = scene();
        due("rules: fee " + text, Check.rules(x, 0, "fee " + text + ";"), 1);
        due(text, x.runs(0, 0, 3), want);
    }

    private static void text() {
        Doc.terms(3, "RULES of FIRMS 0 .. 2 are TEXTS = {LINE ;}.");
        fine("", 0);
        fine("fee 1;", 1);
        fine("fee 1;keep 1;bar 1=1;", 3);
        wrong(";", 1, 0);
        wrong("fee 1", 1, 5);
        wrong("fee 1;;", 1, 6);
        wrong("fee 1 keep 1;", 1, 6);
        TalkingReels x = new TalkingReels();
        Check.range("firm", 0, 2, v -> Check.rules(x, v, "fee 1;"), 1, -1);
        due("RULES of two", x.look(10), 2);
        due("RULES of the third", Check.rules(x, 1, "fee 1; fee 2;"), 2);
        due("RULES of all three", x.look(10), 4);
    }

    private static void line() {
        Doc.terms(3, "LINE = bar B | fee E [when B] | keep E [when B].");
        fine("bar 1=1;", 1);
        fine("fee 1;", 1);
        fine("fee 1 when 1=1;", 1);
        fine("keep 1;", 1);
        fine("keep 1 when 1=1;", 1);
        wrong("bar 1;", 1, 5);
        wrong("bar;", 1, 3);
        wrong("fee;", 1, 3);
        wrong("keep;", 1, 4);
        wrong("bar 1=1 when 1=1;", 1, 8);
        wrong("fee when 1=1;", 1, 4);
        wrong("keep 1 when;", 1, 11);
        wrong("fee 1=1;", 1, 5);
        wrong("fee 1 when 1=1 when 1=1;", 1, 15);
        wrong("when 1=1;", 1, 0);
        wrong("1;", 1, 0);
        wrong("not 1=1;", 1, 0);
    }

    private static void either() {
        Doc.terms(3, "B = A {or A}.");
        so("1=2 or 1=2", false);
        so("1=2 or 1=1", true);
        so("1=1 or 1=2", true);
        so("1=2 or 1=2 or 1=1", true);
        so("1=1 or 1=1 and 1=2", true);
        wrong("bar or 1=1;", 1, 4);
        wrong("bar 1=1 or;", 1, 10);
        wrong("bar 1=1 or or 1=1;", 1, 11);
    }

    private static void both() {
        Doc.terms(3, "A = C {and C}.");
        so("1=1 and 1=2", false);
        so("1=2 and 1=1", false);
        so("1=1 and 1=1", true);
        so("1<2 and 1=1", true);
        so("2>1 and 1<2", true);
        so("1=1 and 1=1 and 1=2", false);
        so("1=2 and 1=1 or 1=1", true);
        so("1=2 and 1=2 or 1=1 and 1=1", true);
        wrong("bar and 1=1;", 1, 4);
        wrong("bar 1=1 and;", 1, 11);
        wrong("bar 1=1 and or 1=1;", 1, 12);
    }

    private static void single() {
        Doc.terms(3, "C = E (< | = | >) E | not C | ( B ).");
        int[][] pairs = {{1, 2}, {2, 2}, {3, 2}};
        for (int[] p : pairs) {
            so(p[0] + " < " + p[1], p[0] < p[1]);
            so(p[0] + " = " + p[1], p[0] == p[1]);
            so(p[0] + " > " + p[1], p[0] > p[1]);
        }
        so("0-1 < 0", true);
        so("not 1=2", true);
        so("not 1=1", false);
        so("not 1<2", false);
        so("not 2>1", false);
        so("not not 1=1", true);
        so("not 1=1 or 1=1", true);
        so("not 1=2 and 1=2", false);
        so("not (1=1 and 1=2)", true);
        so("(1=1)", true);
        so("(1=1 or 1=1) and 1=2", false);
        so("1=2 and (1=2 or 1=1)", false);
        wrong("bar 1<2<3;", 1, 7);
        wrong("bar 1<=2;", 1, 6);
        wrong("bar (1)=1;", 1, 6);
        wrong("bar ();", 1, 5);
        wrong("bar (1=1;", 1, 8);
        wrong("bar 1=1);", 1, 7);
        wrong("bar not;", 1, 7);
        wrong("bar 1=not 1;", 1, 6);
        wrong("bar 1=(1);", 1, 6);
        wrong("bar (1=1)=1;", 1, 9);
        wrong("bar 1=1 not 1=1;", 1, 8);
    }

    private static void sum() {
        Doc.terms(3, "E = T {(+ | -) T}.");
        value("9 - 3 - 2", 4);
        value("9 - 3 + 2", 8);
        value("1 + 2 * 3", 7);
        value("20 - 2 * 3 - 1", 13);
        wrong("fee -1;", 1, 4);
        wrong("fee +1;", 1, 4);
        wrong("fee 1+;", 1, 6);
        wrong("fee 1--1;", 1, 6);
        wrong("fee (1);", 1, 4);
    }

    private static void product() {
        Doc.terms(3, "T = U {* U | / NUMBER}.");
        value("7 / 2 * 2", 6);
        value("7 * 2 / 4", 3);
        value("100 / 7 / 2", 7);
        value("2 * 3 * 4", 24);
        value("10 - 9 / 2", 6);
        value("seats / 2 * 2", 320);
        wrong("fee 1/wear;", 1, 6);
        wrong("fee 1/;", 1, 6);
        wrong("fee 1*;", 1, 6);
        wrong("fee *1;", 1, 4);
        wrong("fee 1//1;", 1, 6);
        wrong("fee 1/(1);", 1, 6);
        wrong("fee 1*-1;", 1, 6);
    }

    private static void unit() {
        Doc.terms(3, "U = NUMBER | maker | track | tongue | frames | wear | firm | seats | band | price | week.");
        String[] units = {"7", "maker", "track", "tongue", "frames", "wear", "firm", "seats", "band", "price", "week"};
        int[] values = {7, 2, 0, 3, 4321, 0, 1, 321, 17, 45, 0};
        for (int i = 0; i < units.length; i++) {
            value(units[i] + " + 10", values[i] + 10);
            value("2 * " + units[i] + " * 2 + 1", 4 * values[i] + 1);
        }
        for (String word : new String[] {"bar", "fee", "keep", "when", "or", "and", "not", "town", "taste", "hall"}) {
            wrong("fee " + word + ";", 1, 4);
            wrong("fee 2 + " + word + ";", 1, 8);
        }
    }

    private static void words() {
        Doc.terms(3, "TOKENS: letters as many as stand together are KEYWORDS (those told here) or none;");
        wrong("fees 1;", 1, 0);
        wrong("fe 1;", 1, 0);
        wrong("afee 1;", 1, 0);
        wrong("feefee 1;", 1, 0);
        wrong("Fee 1;", 1, 0);
        wrong("FEE 1;", 1, 0);
        wrong("feeX 1;", 1, 0);
        wrong("fe e 1;", 1, 0);
        wrong("fee wearband;", 1, 4);
        wrong("fee framess;", 1, 4);
        wrong("fee frame;", 1, 4);
        wrong("fee a;", 1, 4);
        wrong("bar 1=1 andnot 1=1;", 1, 8);
        wrong("a".repeat(600), 1, 0);
        fine("fee1when1=1and1=1or not1=1;", 1);
        fine("keep wear*2;", 1);
    }

    private static void numbers() {
        Doc.terms(3, "digits as many as stand together NUMBERS of 1 to 4 digits or none;");
        value("0", 0);
        value("9", 9);
        value("9999", 9999);
        value("0000", 0);
        value("0009", 9);
        value("0100", 100);
        wrong("fee 10000;", 1, 4);
        wrong("fee 00001;", 1, 4);
        wrong("fee 1 2;", 1, 6);
        wrong("fee 1 + 99999;", 1, 8);
        wrong("fee 4/00000;", 1, 6);
        wrong("fee " + "9".repeat(596), 1, 4);
        wrong("fee 1x;", 1, 5);
        fine("fee 9999+9999+9999;", 1);
    }

    /** Each sign behind "fee 1": what stands there alone is no FAULT, or one behind it. */
    private static void signs() {
        Doc.terms(3, "; + - * / ( ) < = > .");
        for (int sign = 0; sign < 256; sign++) {
            String text = "fee 1" + (char) sign + ";";
            boolean goesOn = ";+-*/".indexOf(sign) >= 0;
            if (sign == 32 || sign == 10 || sign >= '0' && sign <= '9') {
                fine(text, 1);
            } else {
                wrong(text, 1, goesOn ? 6 : 5);
            }
        }
        fine("bar(1+1-1*1/1<1)or 1=1or 1>1;", 1);
    }

    private static void blanks() {
        Doc.terms(3, "Blanks (32, 10) between.");
        fine(" ", 0);
        fine("\n", 0);
        fine(" \n".repeat(300), 0);
        fine("\n fee \n 1 \n + \n 1 \n when \n 1 \n = \n 1 \n ; \n", 1);
        wrong("fee\t1;", 1, 3);
        wrong("fee\r1;", 1, 3);
        wrong("fee\u00001;", 1, 3);
        wrong("fee\u00a01;", 1, 3);
        wrong(" \n x", 1, 3);
        wrong("fee 1 \n ", 1, 8);
    }

    private static void wrap() {
        Doc.terms(3, "Ints, which wrap;");
        so("9999*9999*21 > 0", true);
        so("9999*9999*22 < 0", true);
        so("9999*9999*21 + 9999*9999 < 0", true);
        so("0 - 9999*9999*21 - 9999*9999 > 0", true);
        so("8192*8192*32 < 0", true);
        so("8192*8192*32 - 1 > 0", true);
        so("8192*8192*32 = 0 - 8192*8192*32", true);
        so("8192*8192*32*2 = 0", true);
        so("9999*9999*43 = 417*9999 + 3164", true);
        value("8192*8192*32 - 1", 99999);
        value("8192*8192*32", 0);
    }

    private static void towardsZero() {
        Doc.terms(3, "/ goes towards 0.");
        value("7/2", 3);
        value("1/2", 0);
        value("9999/9999", 1);
        so("8192*8192*32/9999 = 0 - 9999*21 - 4790", true);
        so("8192*8192*32/9999 = 0 - 9999*21 - 4791", false);
        so("9999*9999*22/9999/9999 = 0 - 20", true);
        so("9999*9999*22/9999/9999 = 0 - 21", false);
        so("8192*8192*32/1 = 8192*8192*32", true);
    }

    private static void firstByPlace() {
        Doc.terms(3, "FAULTS, the first by its place,");
        wrong("fee 1/0 x", 2, 6);
        wrong("fee x/0;", 1, 4);
        wrong("bar (((((((((1/0=1 x", 3, 12);
        wrong("bar 1/0=((((((((((", 2, 6);
        wrong("fee 1;".repeat(20) + "fee 1/0;", 3, 120);
        wrong("fee 1;".repeat(19) + "fee 1/0;fee 1;", 2, 120);
        wrong("x fee 1/0;", 1, 0);
    }

    private static void leastAtOnePlace() {
        Doc.terms(3, "at one place the least:");
        wrong("fee 1;".repeat(19) + "fee 1 bar", 1, 120);
        wrong("fee 1;".repeat(20) + "fee 1;", 3, 120);
        wrong("bar ((((((((1(", 1, 13);
        wrong("bar not not not not not not not not 1 not", 1, 38);
        wrong("bar ((((((((1=1(", 1, 15);
        wrong("fee (((((((((1;", 1, 4);
    }

    private static void cannotStand() {
        Doc.terms(3, "1 what can't stand there (the end: the text's length).");
        wrong("fee", 1, 3);
        wrong("fee  \n", 1, 6);
        wrong("fee 1", 1, 5);
        wrong("fee 1 ", 1, 6);
        wrong("fee 1;bar", 1, 9);
        wrong("bar (1=1", 1, 8);
        wrong("bar not ", 1, 8);
        wrong("fee 1/", 1, 6);
        wrong("keep 1 when 1", 1, 13);
        wrong("fee 1" + "+1".repeat(297) + "+", 1, 600);
        wrong("fee 1" + " ".repeat(595), 1, 600);
        wrong("fee 1" + " ".repeat(594) + "x", 1, 599);
        wrong("keep 1;" + " ".repeat(592) + "!", 1, 599);
    }

    private static void partByZero() {
        Doc.terms(3, "2 (at the NUMBER) a part by 0.");
        wrong("fee 1/0;", 2, 6);
        wrong("fee 1 / \n 0000;", 2, 10);
        wrong("fee 6/1/0;", 2, 8);
        wrong("fee 6*2/00;", 2, 8);
        wrong("bar 1/0=1;", 2, 6);
        wrong("bar 1=1/0;", 2, 8);
        wrong("fee 1 when 1=1/0;", 2, 15);
        wrong("fee 1/0", 2, 6);
        wrong("fee 1" + " ".repeat(592) + "/ 0", 2, 599);
        value("0/1", 0);
        value("5*0", 0);
        value("0001/0001", 1);
    }

    private static void line21() {
        Doc.terms(3, "3 (at its KEYWORD) the 21st bar, fee or keep;");
        for (String line : new String[] {"fee 1;", "keep 1;", "bar 1=2;"}) {
            fine(line.repeat(20), 20);
            wrong(line.repeat(21), 3, 20 * line.length());
            wrong(line.repeat(20) + " \nbar", 3, 20 * line.length() + 2);
            wrong(line.repeat(20) + "fee", 3, 20 * line.length());
            wrong(line.repeat(20) + "keep", 3, 20 * line.length());
            wrong(line.repeat(20) + "when", 1, 20 * line.length());
        }
        wrong("fee 1;".repeat(7) + "keep 1;".repeat(7) + "bar 1=2;".repeat(7), 3, 7 * 13 + 6 * 8);
        fine("fee 1;".repeat(7) + "keep 1;".repeat(7) + "bar 1=2;".repeat(6) + " ", 20);
        TalkingReels x = new TalkingReels();
        for (int firm = 0; firm < 3; firm++) {
            due("20 of each FIRM", Check.rules(x, firm, "fee 1;".repeat(20)), 20);
        }
        due("20 again", Check.rules(x, 0, "fee 1;".repeat(20)), 20);
        due("60 in all", x.look(10), 60);
    }

    private static void open9() {
        Doc.terms(3, "(at it) the 9th ( or not that is open.");
        fine("bar " + "(".repeat(8) + "1=1" + ")".repeat(8) + ";", 1);
        wrong("bar " + "(".repeat(9) + "1=1" + ")".repeat(9) + ";", 3, 12);
        fine("bar " + "not ".repeat(8) + "1=1;", 1);
        wrong("bar " + "not ".repeat(9) + "1=1;", 3, 36);
        fine("bar " + "not(".repeat(4) + "1=1" + ")".repeat(4) + ";", 1);
        wrong("bar " + "not(".repeat(4) + "(1=1" + ")".repeat(5) + ";", 3, 20);
        wrong("bar " + "not(".repeat(4) + "not 1=1" + ")".repeat(4) + ";", 3, 20);
        wrong("bar " + "not ".repeat(8) + "(1=1);", 3, 36);
        wrong("bar " + "(".repeat(8) + "1=1 or not 1=1" + ")".repeat(8) + ";", 3, 19);
        wrong("fee 1 when " + "(".repeat(9), 3, 19);
        fine("bar " + ("(".repeat(8) + "1=1" + ")".repeat(8) + " and ").repeat(9) + "1=1;", 1);
        fine("bar " + ("not ".repeat(8) + "1=1 or ").repeat(9) + "1=1;", 1);
        fine("bar (" + "not 1=1 and ".repeat(20) + "(".repeat(7) + "1=1" + ")".repeat(8) + ";", 1);
        fine("bar not " + "(".repeat(7) + "1=1" + ")".repeat(7) + " and " + "(".repeat(8) + "1=1" + ")".repeat(8) + ";", 1);
    }

    private static void ofThePrint() {
        Doc.terms(3, "Asked for a PRINT in a HALL, NOW: its PICTURE's maker, track, tongue, frames, its wear;");
        TalkingReels x = new TalkingReels();
        x.picture(0, 5, 1, 3, 100);
        x.picture(2, 4, 1, 2, 9999);
        x.print(1);
        x.print(0);
        x.hall(0, 10, 1, 1);
        x.book(1, 0);
        x.weeks(12);
        Check.rules(x, 0, "fee maker*10+track; keep tongue;");
        Check.rules(x, 1, "fee frames+wear;");
        due("of PRINT 0", x.runs(0, 0, 3), 22 + 9999);
        due("the tongue of 0", x.runs(0, 0, 4), 4);
        due("of PRINT 1", x.runs(1, 0, 3), 3 + 100 + 12);
        due("the tongue of a SILENT one", x.runs(1, 0, 4), 5);
    }

    private static void ofTheHall() {
        Doc.terms(3, "the firm of the HALL's SET (3 without), seats, band, price of the HALL;");
        TalkingReels x = new TalkingReels();
        x.picture(0, 0, 0, 0, 100);
        x.print(0);
        x.hall(0, 999, 99, 40);
        x.hall(0, 10, 1, 0);
        Check.rules(x, 2, "fee seats*10+price; keep band;");
        Check.rules(x, 0, "fee firm;");
        due("the greatest, without a SET", x.runs(0, 0, 3), 9990 + 99 + 3);
        due("40 players", x.runs(0, 0, 4), 40);
        due("the least, without a SET", x.runs(0, 1, 3), 100 + 1 + 3);
        due("nobody", x.runs(0, 1, 4), 0);
        for (int firm = 0; firm < 3; firm++) {
            int set = x.set(firm, 7, 0);
            x.hire(set, 1);
            due("a SET of " + firm, x.runs(0, 1, 3), 101 + firm);
            due("elsewhere none", x.runs(0, 0, 3), 9990 + 99 + 3);
            x.hire(set, -1);
        }
        x.asks(1, 50, 20);
        due("another PRICE", x.runs(0, 1, 3), 100 + 50 + 3);
        due("another BAND", x.runs(0, 1, 4), 20);
    }

    private static void ofTheWeek() {
        Doc.terms(3, "of the HALL; week.");
        TalkingReels x = scene();
        Check.rules(x, 0, "fee week; bar week = 199;");
        due("at first", x.runs(0, 0, 3), 0);
        x.weeks(1);
        due("then", x.runs(0, 0, 3), 1);
        for (int i = 0; i < 9; i++) {
            x.weeks(20);
        }
        x.weeks(17);
        due("at 198 it is not barred", x.runs(0, 0, 1), -1);
        x.weeks(1);
        due("the last one", x.runs(0, 0, 3), 199);
        due("at 199 it is", x.runs(0, 0, 1), 0);
    }

    private static void barred() {
        Doc.terms(3, "BARRED: some bar line is so: by the first FIRM, its first such line.");
        TalkingReels x = scene();
        due("by none", x.runs(0, 0, 1), -1);
        Check.rules(x, 2, "bar 1=2;");
        due("none is so", x.runs(0, 0, 1), -1);
        Check.rules(x, 2, "bar 1=2; bar 1=1; bar 1=1;");
        due("by 2", x.runs(0, 0, 1), 2);
        due("its line 1", x.runs(0, 0, 2), 1);
        Check.rules(x, 0, "fee 1;".repeat(19) + "bar 1=1;");
        due("by 0", x.runs(0, 0, 1), 0);
        due("its last line", x.runs(0, 0, 2), 19);
        Check.rules(x, 1, "bar 1=1;");
        due("by 0 still", x.runs(0, 0, 1), 0);
        Check.rules(x, 0, "");
        due("by 1", x.runs(0, 0, 1), 1);
        due("its line 0", x.runs(0, 0, 2), 0);
    }

    private static void fee() {
        Doc.terms(3, "FEE: of each FIRM the greatest fee of its lines that are so (0 at least), of all FIRMS together, "
            + "99999 at most of each.");
        TalkingReels x = scene();
        due("without RULES", x.runs(0, 0, 3), 0);
        Check.rules(x, 0, "fee 3; fee 8; fee 5; fee 9 when 1=2;");
        due("the greatest that is so", x.runs(0, 0, 3), 8);
        Check.rules(x, 1, "fee 0-1; fee 0-5 when 1=1;");
        due("0 at least", x.runs(0, 0, 3), 8);
        Check.rules(x, 2, "fee 7 when 1=2;");
        due("none that is so", x.runs(0, 0, 3), 8);
        Check.rules(x, 2, "fee 9999*10+8;");
        due("99998", x.runs(0, 0, 3), 8 + 99998);
        Check.rules(x, 2, "fee 9999*10+9;");
        due("99999", x.runs(0, 0, 3), 8 + 99999);
        Check.rules(x, 2, "fee 9999*10+10;");
        due("100000", x.runs(0, 0, 3), 8 + 99999);
        Check.rules(x, 1, "fee 8192*8192*32-1;");
        Check.rules(x, 0, "fee 9999*9999;");
        due("99999 of each", x.runs(0, 0, 3), 3 * 99999);
        Check.rules(x, 0, "fee 8192*8192*32;");
        due("the least int", x.runs(0, 0, 3), 2 * 99999);
        Check.rules(x, 0, "keep 5; bar 1=1;");
        due("neither keep nor bar asks a fee", x.runs(0, 0, 3), 2 * 99999);
    }

    private static void keep() {
        Doc.terms(3, "KEEP: the greatest keep of all lines that are so (0 .. 40; what is below or above counts as these).");
        TalkingReels x = scene();
        due("without RULES", x.runs(0, 0, 4), 0);
        Check.rules(x, 0, "keep 3; keep 8 when 1=1; keep 9 when 1=2;");
        due("the greatest that is so", x.runs(0, 0, 4), 8);
        Check.rules(x, 2, "keep 10;");
        Check.rules(x, 1, "keep 9;");
        due("of all FIRMS", x.runs(0, 0, 4), 10);
        int[][] rows = {{0, 0}, {1, 1}, {39, 39}, {40, 40}, {41, 40}, {9999, 40}};
        for (int[] row : rows) {
            keepOf(x, "keep " + row[0] + ";", row[1]);
        }
        keepOf(x, "keep 0-1;", 0);
        keepOf(x, "keep 8192*8192*32;", 0);
        keepOf(x, "keep 8192*8192*32-1;", 40);
        keepOf(x, "keep 0-1; keep 41;", 40);
        keepOf(x, "fee 9;", 0);
    }

    private static void keepOf(TalkingReels x, String text, int keep) {
        Check.rules(x, 0, "");
        Check.rules(x, 2, "");
        due("rules: " + text, Check.rules(x, 1, text) > 0, true);
        due(text, x.runs(0, 0, 4), keep);
    }

    /** A SILENT PRINT of so much WEAR, a HALL with nobody, one with a player. */
    private static TalkingReels worn(int wear) {
        TalkingReels x = new TalkingReels();
        x.picture(0, 5, 0, 3, 100);
        x.print(0);
        x.hall(0, 10, 1, 0);
        x.hall(0, 10, 1, 1);
        x.book(0, 1);
        x.weeks(wear);
        return x;
    }

    private static void wornOut() {
        Doc.terms(3, "A PRINT RUNS in a HALL: 1 its WEAR is 12;");
        TalkingReels x = worn(11);
        due("of a WEAR of 11", x.runs(0, 1, 0), 0);
        x.weeks(1);
        due("of a WEAR of 12", x.runs(0, 1, 0), 1);
        x.weeks(1);
        due("it stays so", x.runs(0, 1, 0), 1);
        due("and 12", x.at(0, 1), 12);
    }

    private static void noSetThatPlays() {
        Doc.terms(3, "2 it has a TRACK, and the HALL no SET that PLAYS it;");
        TalkingReels x = new TalkingReels();
        for (int track = 0; track < 3; track++) {
            x.picture(0, 0, 0, track, 100);
            x.print(track);
        }
        x.hall(0, 10, 1, 40);
        x.hall(0, 10, 1, 40);
        for (int track = 0; track < 3; track++) {
            due("without a SET", x.runs(track, 0, 0), 2);
            int alone = x.set(0, 1 << track, 0);
            int others = x.set(0, 7 - (1 << track), 0);
            x.hire(alone, 0);
            x.hire(others, 1);
            due("a SET for it alone", x.runs(track, 0, 0), 0);
            due("a SET for the others", x.runs(track, 1, 0), 2);
            x.hire(alone, -1);
            x.hire(others, -1);
        }
    }

    private static void silentWithoutBand() {
        Doc.terms(3, "3 it is SILENT and the BAND has nobody;");
        TalkingReels x = worn(1);
        due("nobody", x.runs(0, 0, 0), 3);
        due("one player", x.runs(0, 1, 0), 0);
        x.hire(x.set(0, 7, 0), 0);
        due("a SET does not help", x.runs(0, 0, 0), 3);
        x.asks(0, 1, 1);
        x.asks(1, 1, 0);
        due("one now", x.runs(0, 0, 0), 0);
        due("nobody now", x.runs(0, 1, 0), 3);
        TalkingReels y = scene();
        y.asks(0, 1, 0);
        due("a DISC needs nobody", y.runs(0, 0, 0), 0);
    }

    private static void barredIsFour() {
        Doc.terms(3, "4 it is BARRED;");
        TalkingReels x = scene();
        Check.rules(x, 2, "bar tongue = 3 and frames = 4321;");
        due("barred", x.runs(0, 0, 0), 4);
        Check.rules(x, 2, "bar tongue = 3 and frames = 4320;");
        due("not barred", x.runs(0, 0, 0), 0);
    }

    private static void firstReason() {
        Doc.terms(3, "0 none of these (the first of these holds).");
        TalkingReels x = worn(12);
        due("1, also without a band", x.runs(0, 0, 0), 1);
        Check.rules(x, 0, "bar 1=1;");
        due("1, also barred", x.runs(0, 1, 0), 1);
        TalkingReels y = worn(11);
        due("0", y.runs(0, 1, 0), 0);
        Check.rules(y, 0, "bar 1=1;");
        due("3, also barred", y.runs(0, 0, 0), 3);
        due("4", y.runs(0, 1, 0), 4);
        TalkingReels z = scene();
        Check.rules(z, 0, "bar 1=1;");
        due("4 of a DISC", z.runs(0, 0, 0), 4);
        z.hire(0, -1);
        due("2, also barred", z.runs(0, 0, 0), 2);
        TalkingReels w = scene();
        w.book(0, 0);
        w.weeks(12);
        w.hire(0, -1);
        due("1, also without a SET", w.runs(0, 0, 0), 1);
    }

    private static void feed() {
        Doc.promise(12, "Twenty bytes come behind the TAPE, of each number the highest first: how many it has.");
        TalkingReels x = scene();
        due("keep 12+3*4;fee 7890", x.feed(0x6b656570, 0x2031322b, 0x332a343b, 0x66656520, 0x37383930), 20);
        due("+1;fee 2; (and blanks)", x.feed(0x2b313b66, 0x65652032, 0x3b202020, 0x20202020, 0x20202020), 40);
        due("three lines", x.rules(0), 3);
        due("the keep", x.runs(0, 0, 4), 24);
        due("the fee", x.runs(0, 0, 3), 7891);
        for (int i = 0; i < 20; i++) {
            int[] v = new int[5];
            Arrays.fill(v, 0x20202020);
            v[i / 4] = 0x20202020 & ~(255 << 24 - 8 * (i % 4)) | 0x9f << 24 - 8 * (i % 4);
            x.feed(v[0], v[1], v[2], v[3], v[4]);
            due("a byte that can't stand", x.rules(1), -1);
            due("its place", x.fault(1), i);
        }
        due("bytes of 255", x.feed(-1, -1, -1, -1, -1), 20);
        due("bytes of 0", x.feed(0, 0, 0, 0, 0), 40);
        due("a highest bit", x.feed(Integer.MIN_VALUE, Integer.MAX_VALUE, 0, 0, 0), 60);
    }

    private static void feedNone() {
        Doc.promise(12, "NONE, and nothing comes, if there would be more than 600.");
        TalkingReels x = scene();
        int blank = 0x20202020;
        for (int i = 1; i <= 30; i++) {
            due("feed " + i, x.feed(blank, blank, blank, blank, blank), 20 * i);
        }
        due("of 620", x.feed(-1, -1, -1, -1, -1), -1);
        due("600 there are", x.end(600), true);
        due("599", x.end(599), true);
        due("of 619", x.feed(-1, -1, -1, -1, -1), -1);
        due("599 stay", x.end(600), false);
        due("581", x.end(581), true);
        due("of 601", x.feed(-1, -1, -1, -1, -1), -1);
        due("581 stay", x.end(582), false);
        due("nothing came", x.rules(0), 0);
        for (int i = 1; i <= 29; i++) {
            x.feed(blank, blank, blank, blank, blank);
        }
        due("580 and 20", x.feed(blank, blank, blank, blank, blank), 600);
    }

    private static void end() {
        Doc.promise(13, "The TAPE has its first n bytes alone: true;");
        TalkingReels x = new TalkingReels();
        due("none of none", x.end(0), true);
        Check.type(x, "fee 1;fee 2;fee 3;  ");
        due("all 20", x.end(20), true);
        due("the first 12", x.end(12), true);
        due("13 no more", x.end(13), false);
        due("behind these", x.feed(0x6b656570, 0x20373b20, 0x20202020, 0x20202020, 0x20202020), 32);
        due("three lines", x.rules(0), 3);
        Check.type(x, "fee 1;");
        due("none", x.end(0), true);
        due("no line", x.rules(0), 0);
    }

    private static void endFalse() {
        Doc.promise(13, "false, changing nothing, if it has not so many, or n is below 0.");
        TalkingReels x = new TalkingReels();
        due("1 of none", x.end(1), false);
        due("-1 of none", x.end(-1), false);
        Check.type(x, "fee 1;fee 2;");
        for (int n : new int[] {13, 20, 600, 601, -1, -12, Integer.MIN_VALUE, Integer.MAX_VALUE}) {
            due("end(" + n + ")", x.end(n), false);
        }
        due("all 12 are there", x.end(12), true);
        due("both lines", x.rules(0), 2);
        due("1 of what was read", x.end(1), false);
    }

    private static void rulesLines() {
        Doc.promise(14, "The TAPE, empty then, are RULES of a FIRM: how many lines.");
        TalkingReels x = scene();
        due("of an empty TAPE", x.rules(0), 0);
        due("two lines", Check.rules(x, 0, "fee 6;keep 1;"), 2);
        due("the TAPE is empty", x.end(1), false);
        due("the first byte again", x.feed(0x20202020, 0x20202020, 0x20202020, 0x20202020, 0x20202020), 20);
        due("no lines: the old ones are gone", x.rules(0), 0);
        due("no fee", x.runs(0, 0, 3), 0);
        due("no keep", x.runs(0, 0, 4), 0);
        due("twenty lines", Check.rules(x, 2, "fee 1;".repeat(20)), 20);
        due("lines in all", x.look(10), 20);
        due("one line instead", Check.rules(x, 2, "fee 4;"), 1);
        due("its fee alone", x.runs(0, 0, 3), 4);
        due("one in all", x.look(10), 1);
    }

    private static void rulesOfNoFirm() {
        Doc.promise(14, "NONE: no such FIRM (no FAULT is told: 0 then; the TAPE is empty, too),");
        TalkingReels x = scene();
        Check.rules(x, 0, "fee 5;");
        for (int firm : new int[] {-1, 3, Integer.MIN_VALUE, Integer.MAX_VALUE}) {
            Check.rules(x, 1, "x");
            due("a FAULT before", x.fault(0), 1);
            due("firm " + firm, Check.rules(x, firm, "fee 1/0;"), -1);
            due("no FAULT", x.fault(0), 0);
            due("no place", x.fault(1), -1);
            due("the TAPE is empty", x.end(1), false);
            due("firm " + firm + " with a good text", Check.rules(x, firm, "fee 1;"), -1);
            due("no FAULT", x.fault(0), 0);
            due("the TAPE is empty", x.end(1), false);
        }
        due("nothing was done", x.runs(0, 0, 3), 5);
        due("one line", x.look(10), 1);
    }

    private static void rulesWithAFault() {
        Doc.promise(14, "or a FAULT (they stay as they were).");
        TalkingReels x = scene();
        Check.rules(x, 0, "fee 5; keep 6; bar 1=1;");
        for (String text : new String[] {"fee 7; keep 8; x", "fee 1/0;", "fee 1;".repeat(21), "bar (((((((((", "bar"}) {
            due("rules: " + text, Check.rules(x, 0, text), -1);
            due("the TAPE is empty", x.end(1), false);
            due("the fee", x.runs(0, 0, 3), 5);
            due("the keep", x.runs(0, 0, 4), 6);
            due("the bar", x.runs(0, 0, 2), 2);
            due("the lines", x.look(10), 3);
            due("rules of another: " + text, Check.rules(x, 1, text), -1);
            due("none of another", x.look(10), 3);
        }
        due("mended", Check.rules(x, 0, "fee 7;"), 1);
        due("the new fee", x.runs(0, 0, 3), 7);
    }

    private static void faultOfTheLatest() {
        Doc.promise(15, "Of the latest rules(): what 0 the FAULT (0 without one), 1 its place (NONE).");
        TalkingReels x = new TalkingReels();
        due("before any", x.fault(0), 0);
        due("before any: place", x.fault(1), -1);
        Check.rules(x, 0, "fee 1/0;");
        due("2", x.fault(0), 2);
        due("at 6", x.fault(1), 6);
        Check.rules(x, 2, "x");
        due("1", x.fault(0), 1);
        due("at 0", x.fault(1), 0);
        Check.type(x, "fee 1;");
        due("not rules() yet", x.fault(0), 1);
        x.rules(0);
        due("without one", x.fault(0), 0);
        due("no place", x.fault(1), -1);
        Check.rules(x, 1, "bar (((((((((");
        due("3", x.fault(0), 3);
        due("at 12", x.fault(1), 12);
        x.rules(1);
        due("none of an empty TAPE", x.fault(0), 0);
        due("no place", x.fault(1), -1);
    }

    private static void faultNone() {
        Doc.promise(15, "NONE for another what.");
        TalkingReels x = new TalkingReels();
        Check.rules(x, 0, "fee 1/0;");
        for (int what : new int[] {-1, 2, 3, Integer.MIN_VALUE, Integer.MAX_VALUE}) {
            due("fault(" + what + ")", x.fault(what), -1);
        }
    }

    private static void runsWhy() {
        Doc.promise(16, "Of a PRINT, if it were in a HALL NOW: what 0 why it does not RUN (0 .. 4),");
        TalkingReels x = worn(12);
        x.picture(0, 0, 0, 0, 100);
        x.print(1);
        x.print(0);
        due("0, where another one is", x.runs(2, 1, 0), 0);
        due("1", x.runs(0, 1, 0), 1);
        due("2", x.runs(1, 1, 0), 2);
        due("3", x.runs(2, 0, 0), 3);
        x.hire(x.set(0, 1, 0), 0);
        due("0 with a SET", x.runs(1, 0, 0), 0);
        Check.rules(x, 2, "bar seats = 10;");
        due("4", x.runs(1, 0, 0), 4);
        due("it is in no HALL", x.at(1, 2), -1);
    }

    private static void runsBarred() {
        Doc.promise(16, "1 the FIRM that bars it, 2 the number of that line among its RULES, from 0 on (1, 2: NONE if it is "
            + "not BARRED),");
        TalkingReels x = scene();
        Check.rules(x, 1, "fee 1; keep 1; bar 1=2; bar price < 45; bar price = 45; bar 1=1;");
        due("by 1", x.runs(0, 0, 1), 1);
        due("its line 4", x.runs(0, 0, 2), 4);
        x.hire(0, -1);
        due("another reason comes first", x.runs(0, 0, 0), 2);
        due("yet it is BARRED by 1", x.runs(0, 0, 1), 1);
        due("by its line 4", x.runs(0, 0, 2), 4);
        Check.rules(x, 1, "fee 1; keep 1; bar 1=2;");
        due("not BARRED", x.runs(0, 0, 1), -1);
        due("by no line", x.runs(0, 0, 2), -1);
    }

    private static void runsFeeAndKeep() {
        Doc.promise(16, "3 FEE, 4 KEEP.");
        TalkingReels x = scene();
        x.print(0);
        x.book(0, 0);
        Check.rules(x, 0, "fee 3 + wear; keep 4 - wear; bar wear = 0;");
        due("FEE, though barred", x.runs(0, 0, 3), 3);
        due("KEEP, though barred", x.runs(0, 0, 4), 4);
        Check.rules(x, 0, "fee 3 + wear; keep 4 - wear;");
        x.weeks(2);
        due("FEE NOW", x.runs(0, 0, 3), 5);
        due("KEEP NOW", x.runs(0, 0, 4), 2);
        due("FEE of one that is not there", x.runs(1, 0, 3), 3);
        due("KEEP of one that is not there", x.runs(1, 0, 4), 4);
    }

    private static void runsNone() {
        Doc.promise(16, "NONE if there is none such, or another what.");
        TalkingReels x = scene();
        for (int what = 0; what <= 4; what++) {
            int itsWhat = what;
            int due = what == 1 || what == 2 ? -1 : 0;
            Check.range("print, what " + what, 0, 0, v -> x.runs(v, 0, itsWhat), due, -1);
            Check.range("hall, what " + what, 0, 0, v -> x.runs(0, v, itsWhat), due, -1);
        }
        Check.rules(x, 1, "bar 1=1; fee 4; keep 4;");
        for (int what : new int[] {-1, 5, 10, Integer.MIN_VALUE, Integer.MAX_VALUE}) {
            due("what " + what, x.runs(0, 0, what), -1);
        }
    }
}
