/** The sentences of the terms' beginning and section 1, and of promises 1 to 6, each with a test of its own. */
final class PictureSentences {
    private PictureSentences() {
    }

    static void ask() {
        calls512();
        quotients();
        now();
        picturesAsTheyCome();
        maker();
        tongue();
        taste();
        track();
        frames();
        printsAsTheyCome();
        frameOfAnEvent();
        tear();
        black();
        skip();
        start();
        mostEvents();
        leadOfADisc();
        leadOfWhatWasTold();
        leadUpToAFrame();
        leadByKind();
        latestStart();
        leadOfOthers();
        firstOff();
        promises();
    }

    private static void promises() {
        newObject();
        pictureNumber();
        pictureNone();
        printNumber();
        printNone();
        eventNumber();
        eventNone();
        lead();
        leadNone();
        off();
        offNone();
    }

    private static TalkingReels fresh() {
        return new TalkingReels();
    }

    /** A DISC of 100 FRAMES and a PRINT of it. */
    private static TalkingReels disc() {
        TalkingReels x = new TalkingReels();
        x.picture(0, 0, 0, 0, 100);
        x.print(0);
        return x;
    }

    private static void due(String call, long got, long want) {
        Check.due(call, got, want);
    }

    private static void calls512() {
        Doc.whatItIs("An object is used for at most 512 calls after it has been made; what later calls answer is free.");
        TalkingReels x = disc();
        for (int i = 0; i < 30; i++) {
            due("a refused call counts, too", x.picture(9, 9, 9, 9, 9), -1);
        }
        for (int i = 0; i < 150; i++) {
            due("event " + i, x.event(0, 1, 0, 1), i + 1);
        }
        for (int i = 0; i < 327; i++) {
            due("lead asked " + i, x.lead(0, 0, 0), 150);
        }
        due("call 510", x.weeks(1), 1);
        due("call 511", x.print(0), 1);
        due("call 512", x.off(0, 1), 0);
    }

    private static void quotients() {
        Doc.terms(0, "Quotients go downwards (to the lesser one).");
        TalkingReels x = fresh();
        x.purse(16, 199);
        x.owe(16, 17, 100);
        x.owe(16, 18, 100);
        due("99 hundredths of 199", x.clear(1, 16, 0), 197);
        due("the half of 197", x.clear(1, 17, 1), 98);
        due("the other half", x.clear(1, 18, 1), 98);
        due("1 hundredth of 199", x.clear(99, 16, 0), 1);
        due("the half of 1", x.clear(99, 17, 1), 0);
    }

    private static void now() {
        Doc.terms(0, "NOW is a WEEK 0 .. 199 (0 at first).");
        TalkingReels x = fresh();
        due("at first", x.look(0), 0);
        for (int i = 0; i < 9; i++) {
            x.weeks(20);
        }
        due("the last WEEK", x.weeks(19), 199);
        due("no WEEK behind it", x.weeks(1), -1);
        due("NOW stays", x.look(0), 199);
    }

    private static void picturesAsTheyCome() {
        Doc.terms(1, "PICTURES 0 .. 11 as they come:");
        TalkingReels x = fresh();
        for (int i = 0; i < 12; i++) {
            due("one that can't be takes no number", x.picture(3, 0, 0, 0, 100), -1);
            due("picture " + i, x.picture(i % 3, i % 5, i % 4, i % 3, 100 + i), i);
        }
        due("no thirteenth", x.picture(0, 0, 0, 0, 100), -1);
    }

    private static void maker() {
        Doc.terms(1, "a MAKER 0 .. 2,");
        Check.range("maker", 0, 2, v -> fresh().picture(v, 0, 0, 0, 100), 0, -1);
    }

    private static void tongue() {
        Doc.terms(1, "a TONGUE 0 .. 4, or 5 SILENT,");
        Check.range("tongue", 0, 4, v -> fresh().picture(0, v, 0, 0, 100), 0, -1);
        due("SILENT", fresh().picture(0, 5, 0, 3, 100), 0);
        for (int track = 0; track < 4; track++) {
            due("tongue 6 with track " + track, fresh().picture(0, 6, 0, track, 100), -1);
            due("tongue -1 with track " + track, fresh().picture(0, -1, 0, track, 100), -1);
        }
    }

    private static void taste() {
        Doc.terms(1, "a TASTE 0 .. 3,");
        Check.range("taste", 0, 3, v -> fresh().picture(0, 0, v, 0, 100), 0, -1);
    }

    private static void track() {
        Doc.terms(1, "a TRACK 0 DISC, 1 WIDTH, 2 SHADE, 3 none (just if it is SILENT, and then always),");
        for (int tongue = 0; tongue <= 5; tongue++) {
            for (int track = -1; track <= 4; track++) {
                boolean can = tongue == 5 ? track == 3 : track >= 0 && track <= 2;
                due("tongue " + tongue + " track " + track, fresh().picture(0, tongue, 0, track, 100), can ? 0 : -1);
            }
        }
        due("track min", fresh().picture(0, 0, 0, Integer.MIN_VALUE, 100), -1);
        due("track max of a SILENT one", fresh().picture(0, 5, 0, Integer.MAX_VALUE, 100), -1);
    }

    private static void frames() {
        Doc.terms(1, "FRAMES 100 .. 9999.");
        Check.range("frames", 100, 9999, v -> fresh().picture(0, 0, 0, 0, v), 0, -1);
        Check.range("frames of a SILENT one", 100, 9999, v -> fresh().picture(0, 5, 0, 3, v), 0, -1);
    }

    private static void printsAsTheyCome() {
        Doc.terms(1, "PRINTS 0 .. 29 as they come, each of a PICTURE, with a WEAR (0 at first).");
        TalkingReels x = fresh();
        for (int i = 0; i < 3; i++) {
            x.picture(0, 0, 0, 0, 100);
        }
        for (int i = 0; i < 30; i++) {
            due("one of no PICTURE takes no number", x.print(3), -1);
            due("print " + i, x.print(i % 3), i);
            due("its PICTURE", x.at(i, 0), i % 3);
            due("its WEAR", x.at(i, 1), 0);
        }
        due("no thirty-first", x.print(0), -1);
    }

    private static void frameOfAnEvent() {
        Doc.terms(1, "EVENTS of a PRINT are told at a FRAME (0 .. FRAMES - 1), in the WEEK NOW:");
        TalkingReels x = fresh();
        x.picture(0, 0, 0, 0, 100);
        x.picture(0, 0, 0, 0, 9999);
        x.print(0);
        x.print(1);
        for (int kind = 0; kind < 3; kind++) {
            int itsKind = kind;
            TalkingReels y = disc();
            due("frame 0", y.event(0, kind, 0, 1), 1);
            due("frame 99 of 100", y.event(0, kind, 99, 1), 2);
            Check.range("beyond", 0, 99, v -> y.event(0, itsKind, v, 1) > 0 ? 1 : -1, 1, -1);
        }
        due("the last of 9999", x.event(1, 0, 9998, 5), 1);
        due("behind the last of 9999", x.event(1, 0, 9999, 5), -1);
        x.weeks(3);
        due("told in the WEEK 3", x.event(0, 0, 50, 7), 2);
        x.weeks(1);
        due("not known at 2", x.lead(0, 50, 2), 0);
        due("known at 3", x.lead(0, 50, 3), -7);
    }

    private static void kind(int kind, int least, int most) {
        Check.range("n of kind " + kind, least, most, v -> disc().event(0, kind, 0, v), 1, -1);
    }

    private static void tear() {
        Doc.terms(1, "0 TEAR of n (1 .. 99),");
        kind(0, 1, 99);
        due("no kind below", disc().event(0, -1, 0, 1), -1);
    }

    private static void black() {
        Doc.terms(1, "1 BLACK of n (1 .. 99),");
        kind(1, 1, 99);
    }

    private static void skip() {
        Doc.terms(1, "2 SKIP of n (-9 .. 9, not 0);");
        kind(2, -9, 9);
        due("not 0", disc().event(0, 2, 0, 0), -1);
        due("-1", disc().event(0, 2, 0, -1), 1);
        due("1", disc().event(0, 2, 0, 1), 1);
    }

    private static void start() {
        Doc.terms(1, "and 3 START of n (-99 .. 99; its FRAME is 0);");
        kind(3, -99, 99);
        due("of 0", disc().event(0, 3, 0, 0), 1);
        due("at FRAME 1", disc().event(0, 3, 1, 5), -1);
        due("at FRAME 99", disc().event(0, 3, 99, 5), -1);
        due("at FRAME -1", disc().event(0, 3, -1, 5), -1);
        due("no kind above", disc().event(0, 4, 0, 1), -1);
        due("no kind far above", disc().event(0, Integer.MAX_VALUE, 0, 1), -1);
        due("no kind far below", disc().event(0, Integer.MIN_VALUE, 0, 1), -1);
    }

    private static void mostEvents() {
        Doc.terms(1, "150 at most in all.");
        TalkingReels x = disc();
        x.print(0);
        x.print(0);
        for (int i = 0; i < 150; i++) {
            due("event " + i, x.event(i % 3, i % 3, i % 100, 1), i + 1);
        }
        for (int i = 0; i < 12; i++) {
            due("no more of " + i % 3, x.event(i % 3, i % 4, 0, 1), -1);
        }
        due("150 there are", x.look(3), 150);
    }

    private static void leadOfADisc() {
        Doc.terms(1, "LEAD at a FRAME f as KNOWN at a WEEK, of a PRINT with a DISC:");
        TalkingReels x = disc();
        due("without EVENTS", x.lead(0, 0, 0), 0);
        due("without EVENTS, at the end", x.lead(0, 99, 0), 0);
        x.event(0, 0, 0, 5);
        x.event(0, 1, 99, 9);
        due("at the first FRAME", x.lead(0, 0, 0), -5);
        due("at the last but one", x.lead(0, 98, 0), -5);
        due("at the last FRAME", x.lead(0, 99, 0), 4);
    }

    private static void leadOfWhatWasTold() {
        Doc.terms(1, "for all EVENTS of it that were told by then");
        TalkingReels x = disc();
        x.print(0);
        for (int week = 0; week < 4; week++) {
            x.event(0, 1, 10, 1 + week * 10);
            x.event(1, 0, 10, 99);
            x.weeks(1);
        }
        long[] due = {1, 12, 33, 64, 64};
        for (int week = 0; week <= 4; week++) {
            due("known at " + week, x.lead(0, 10, week), due[week]);
            due("the other one at " + week, x.lead(1, 10, week), -99 * Math.min(4, week + 1));
        }
    }

    private static void leadUpToAFrame() {
        Doc.terms(1, "at FRAMES up to f:");
        TalkingReels x = disc();
        x.event(0, 1, 60, 7);
        x.event(0, 1, 30, 2);
        long[][] due = {{0, 0}, {29, 0}, {30, 2}, {31, 2}, {59, 2}, {60, 9}, {61, 9}, {99, 9}};
        for (long[] d : due) {
            due("at " + d[0], x.lead(0, (int) d[0], 0), d[1]);
        }
    }

    private static void leadByKind() {
        Doc.terms(1, "less n for a TEAR, n more for BLACK, 33 n more for a SKIP;");
        int[][] rows = {{0, 1, -1}, {0, 99, -99}, {1, 1, 1}, {1, 99, 99}, {2, 1, 33}, {2, 9, 297}, {2, -1, -33}, {2, -9, -297}};
        for (int[] row : rows) {
            TalkingReels x = disc();
            x.event(0, row[0], 7, row[1]);
            due("kind " + row[0] + " of " + row[1], x.lead(0, 7, 0), row[2]);
        }
        for (int[] row : rows) {
            TalkingReels x = disc();
            for (int i = 0; i < 150; i++) {
                x.event(0, row[0], i % 100, row[1]);
            }
            due("150 of kind " + row[0] + " of " + row[1], x.lead(0, 99, 0), 150L * row[2]);
        }
    }

    private static void latestStart() {
        Doc.terms(1, "and n more for the latest START that was told by then.");
        TalkingReels x = disc();
        x.event(0, 1, 0, 2);
        x.event(0, 3, 0, 99);
        x.event(0, 3, 0, -99);
        due("the latest of one WEEK", x.lead(0, 0, 0), -97);
        due("at the last FRAME, too", x.lead(0, 99, 0), -97);
        x.weeks(2);
        x.event(0, 3, 0, 40);
        x.event(0, 3, 0, 0);
        x.weeks(1);
        due("as known at 1", x.lead(0, 0, 1), -97);
        due("a later one of 0, as known at 2", x.lead(0, 0, 2), 2);
        due("as known NOW", x.lead(0, 0, 3), 2);
    }

    private static void leadOfOthers() {
        Doc.terms(1, "Of other PRINTS 0.");
        for (int track = 1; track <= 3; track++) {
            TalkingReels x = fresh();
            x.picture(0, track == 3 ? 5 : 0, 0, track, 100);
            x.print(0);
            due("a TEAR", x.event(0, 0, 0, 99), 1);
            due("a SKIP", x.event(0, 2, 0, 9), 2);
            due("a START", x.event(0, 3, 0, 50), 3);
            due("lead of track " + track, x.lead(0, 0, 0), 0);
            due("lead at its end", x.lead(0, 99, 0), 0);
            due("off of track " + track, x.off(0, 0), -1);
        }
    }

    private static long offBehind(int kind, int frame, int n) {
        TalkingReels x = disc();
        x.event(0, kind, frame, n);
        return x.off(0, 0);
    }

    private static void firstOff() {
        Doc.terms(1, "OFF: the first FRAME at which the LEAD is above 3 or below -3.");
        due("3", offBehind(1, 50, 3), -1);
        due("4", offBehind(1, 50, 4), 50);
        due("-3", offBehind(0, 50, 3), -1);
        due("-4", offBehind(0, 50, 4), 50);
        due("at FRAME 0", offBehind(1, 0, 4), 0);
        due("at the last FRAME", offBehind(0, 99, 4), 99);
        due("a START of 3", offBehind(3, 0, 3), -1);
        due("a START of -4", offBehind(3, 0, -4), 0);
        TalkingReels x = disc();
        x.event(0, 0, 80, 20);
        x.event(0, 0, 20, 4);
        due("the first by FRAMES, not as told", x.off(0, 0), 20);
        x.event(0, 1, 20, 1);
        due("mended at the very FRAME", x.off(0, 0), 80);
        x.event(0, 1, 79, 17);
        due("off ahead of it", x.off(0, 0), 79);
    }

    private static void newObject() {
        Doc.promise(1, "WEEK 0, nothing there.");
        TalkingReels x = fresh();
        for (int what = 0; what <= 10; what++) {
            due("look(" + what + ")", x.look(what), 0);
        }
        due("print", x.print(0), -1);
        due("event", x.event(0, 0, 0, 1), -1);
        due("lead", x.lead(0, 0, 0), -9999);
        due("off", x.off(0, 0), -1);
        Check.due("asks", x.asks(0, 1, 0), false);
        Check.due("hire", x.hire(0, -1), false);
        Check.due("book", x.book(0, -1), false);
        Check.due("needs", x.needs(0, 1, 0), false);
        Check.due("change", x.change(0, 1, 0), false);
        due("runs", x.runs(0, 0, 0), -1);
        due("worth", x.worth(0, 0), -99);
        due("heard", x.heard(0, 0), -99);
        due("of", x.of(0, 0), -1);
        due("at", x.at(0, 0), -1);
        due("stage", x.stage(1, 0), -1);
        due("faces", x.faces(1, 0, 0), -1);
        due("wire", x.wire(1, 0), -1);
        due("fault(0)", x.fault(0), 0);
        due("fault(1)", x.fault(1), -1);
        due("pool(0)", x.pool(0), 0);
        for (int party = 0; party < 20; party++) {
            due("it pays nothing", x.clear(0, party, 0), 0);
            due("it gets nothing", x.clear(0, party, 1), 0);
            due("it lacks nothing", x.clear(0, party, 2), 0);
        }
        due("one ROUND", x.clear(0, 0, 3), 1);
        Check.due("the TAPE is empty", x.end(1), false);
        due("RULES of no line", x.rules(0), 0);
    }

    private static void pictureNumber() {
        Doc.promise(2, "A PICTURE: its number;");
        TalkingReels x = fresh();
        due("the first", x.picture(2, 4, 3, 2, 9999), 0);
        due("one like it", x.picture(2, 4, 3, 2, 9999), 1);
        due("a SILENT one", x.picture(0, 5, 0, 3, 100), 2);
        due("there are three", x.look(1), 3);
    }

    private static void pictureNone() {
        Doc.promise(2, "NONE if one can't be, or there are 12.");
        TalkingReels x = fresh();
        due("can't be", x.picture(0, 0, 0, 0, 99), -1);
        due("there is none", x.look(1), 0);
        for (int i = 0; i < 12; i++) {
            due("picture " + i, x.picture(0, 0, 0, 0, 100), i);
        }
        due("there are 12", x.picture(0, 0, 0, 0, 100), -1);
        due("of 12, and can't be", x.picture(0, 0, 0, 0, 99), -1);
        due("12 stay", x.look(1), 12);
        due("a PRINT of the last one", x.print(11), 0);
        due("none of a thirteenth", x.print(12), -1);
    }

    private static void printNumber() {
        Doc.promise(3, "A PRINT: its number;");
        TalkingReels x = disc();
        due("one more of the PICTURE", x.print(0), 1);
        x.picture(0, 5, 0, 3, 100);
        due("one of another PICTURE", x.print(1), 2);
        due("in no HALL", x.at(2, 2), -1);
        due("there are three", x.look(2), 3);
    }

    private static void printNone() {
        Doc.promise(3, "NONE if there is no such PICTURE, or there are 30.");
        TalkingReels x = fresh();
        x.picture(0, 0, 0, 0, 100);
        x.picture(0, 0, 0, 0, 100);
        Check.range("print of", 0, 1, v -> x.print(v) >= 0 ? 1 : -1, 1, -1);
        for (int i = 2; i < 30; i++) {
            due("print " + i, x.print(1), i);
        }
        due("there are 30", x.print(0), -1);
        due("30 stay", x.look(2), 30);
    }

    private static void eventNumber() {
        Doc.promise(4, "An EVENT of a PRINT: how many EVENTS there are;");
        TalkingReels x = disc();
        x.print(0);
        due("the first", x.event(0, 0, 0, 1), 1);
        due("of another PRINT", x.event(1, 0, 0, 1), 2);
        due("the same once more", x.event(1, 0, 0, 1), 3);
        due("look(3)", x.look(3), 3);
        due("both of it hold", x.lead(1, 0, 0), -2);
    }

    private static void eventNone() {
        Doc.promise(4, "NONE, and nothing is done, if one can't be, or there are 150.");
        TalkingReels x = disc();
        Check.range("of print", 0, 0, v -> x.event(v, 1, 5, 1) > 0 ? 1 : -1, 1, -1);
        due("two were told", x.look(3), 2);
        due("can't be", x.event(0, 1, 5, 100), -1);
        due("can't be", x.event(0, 3, 5, 9), -1);
        due("nothing was done", x.lead(0, 99, 0), 2);
        for (int i = 2; i < 150; i++) {
            x.event(0, 1, 6, 1);
        }
        due("there are 150", x.event(0, 1, 6, 99), -1);
        due("no START any more", x.event(0, 3, 0, 99), -1);
        due("nothing was done", x.lead(0, 99, 0), 150);
        due("150 stay", x.look(3), 150);
    }

    private static void lead() {
        Doc.promise(5, "LEAD of a PRINT at a FRAME as KNOWN at a WEEK 0 .. NOW;");
        TalkingReels x = disc();
        x.event(0, 1, 4, 8);
        x.weeks(2);
        x.event(0, 1, 4, 1);
        due("at the WEEK 0", x.lead(0, 4, 0), 8);
        due("at the WEEK 1", x.lead(0, 4, 1), 8);
        due("at the WEEK NOW", x.lead(0, 4, 2), 9);
        x.event(0, 0, 4, 99);
        due("it may be far below 0", x.lead(0, 4, 2), -90);
    }

    private static void leadNone() {
        Doc.promise(5, "-9999 if one can't be.");
        TalkingReels x = disc();
        x.weeks(2);
        Check.range("print", 0, 0, v -> x.lead(v, 0, 0), 0, -9999);
        Check.range("frame", 0, 99, v -> x.lead(0, v, 0), 0, -9999);
        Check.range("known", 0, 2, v -> x.lead(0, 0, v), 0, -9999);
        x.picture(0, 5, 0, 3, 200);
        x.print(1);
        Check.range("frame of a SILENT one", 0, 199, v -> x.lead(1, v, 0), 0, -9999);
        Check.range("known of a SILENT one", 0, 2, v -> x.lead(1, 0, v), 0, -9999);
    }

    private static void off() {
        Doc.promise(6, "OFF of a PRINT as KNOWN at a WEEK 0 .. NOW;");
        TalkingReels x = disc();
        x.event(0, 1, 44, 8);
        x.weeks(1);
        x.event(0, 0, 44, 8);
        x.weeks(1);
        x.event(0, 0, 33, 8);
        due("at the WEEK 0", x.off(0, 0), 44);
        due("at the WEEK 1", x.off(0, 1), -1);
        due("at the WEEK NOW", x.off(0, 2), 33);
    }

    private static void offNone() {
        Doc.promise(6, "NONE without, or if one can't be.");
        TalkingReels x = disc();
        due("without EVENTS", x.off(0, 0), -1);
        x.event(0, 1, 7, 4);
        x.weeks(2);
        Check.range("print", 0, 0, v -> x.off(v, 0), 7, -1);
        Check.range("known", 0, 2, v -> x.off(0, v), 7, -1);
    }
}
