/** Objects with something of everything, or full of everything, and all that can be asked of them. */
final class Scene {
    /** How many calls answers() needs at most. */
    static final int ANSWERS = 330;
    /** How many calls fewAnswers() needs at most. */
    static final int FEW_ANSWERS = 150;

    private Scene() {
    }

    /** Some of everything, in the WEEK 2, with a text on the TAPE. */
    static void furnish(Caller c) {
        c.call("picture", 2, 1, 2, 0, 100);
        c.call("picture", 0, 5, 2, 3, 200);
        c.call("picture", 1, 0, 0, 1, 9999);
        for (int print = 0; print < 4; print++) {
            c.call("print", print % 3);
        }
        c.call("event", 0, 0, 50, 2);
        c.call("hall", 0, 10, 10, 2);
        c.call("hall", 0, 20, 5, 3);
        c.call("hall", 1, 999, 1, 0);
        c.call("set", 0, 1, 9);
        c.call("set", 2, 6, 5);
        c.call("set", 1, 7, 0);
        c.call("hire", 0, 0);
        c.call("hire", 1, 2);
        for (int print = 0; print < 3; print++) {
            c.call("book", print, print);
        }
        c.call("crowd", 0, 1, 2, 100, 20);
        c.call("crowd", 1, 0, 1, 50, 5);
        c.call("crowd", 0, 1, 0, 60, 9);
        c.call("crowd", 0, 2, 2, 30, 99);
        c.type("bar wear > 9 and not seats < 20; fee 2 * price when firm = 0; keep 4;");
        c.call("rules", 0);
        c.type("fee week / 2 + 1; keep 7 when track = 3;");
        c.call("rules", 2);
        c.call("weeks", 2);
        c.call("event", 0, 1, 20, 9);
        c.call("event", 3, 3, 0, -7);
        for (int version = 0; version < 3; version++) {
            c.call("version", 2 + version);
            c.call("person", 1 + 3 * version, 3 * version);
            c.call("clause", 5 - version, 3 * version - 2, 1);
            c.call("needs", version, 1 + version, 20 * version + 3);
            c.call("purse", 16 + version, 100 + version);
        }
        c.call("change", 0, 1, 4);
        c.call("change", 2, 1, 1);
        c.call("change", 1, 0, 2);
        c.call("stand", 1, 1);
        c.call("owe", 0, 16, 400);
        c.call("owe", 16, 17, 3333);
        c.call("owe", 17, 19, 777);
        c.call("owe", 17, 0, 90);
        c.call("owe", 19, 16, 5);
        c.type("fee 12; keep 3;");
    }

    /** As many of everything as there may be. */
    static void fill(Caller c) {
        for (int i = 0; i < 150; i++) {
            fillOne(c, i);
        }
        for (int i = 0; i < 30; i++) {
            c.call("feed", 0x20202020, 0x20202020, 0x20202020, 0x20202020, 0x20202020);
        }
    }

    private static void fillOne(Caller c, int i) {
        if (i < 12) {
            c.call("picture", i % 3, i % 5, i % 4, 0, 100 + i);
        }
        if (i < 30) {
            c.call("print", i % 12);
        }
        if (i < 16) {
            c.call("hall", i % 4, 10 + i, 1 + i, i);
            c.call("crowd", i % 4, i % 5, i % 4, 100 * i, 5 * i);
        }
        if (i < 20) {
            c.call("set", i % 3, 1 + i % 7, i);
        }
        if (i < 9) {
            c.call("version", 1 + i);
            c.call("clause", i - 4, 4 - i, i);
        }
        if (i < 14) {
            c.call("person", 1 << i % 5, i % 10);
        }
        c.call("event", i % Math.min(30, i + 1), i % 3, i % 100, 1 + i % 3);
    }

    private static final class Answers {
        private final Caller caller;
        private final StringBuilder all = new StringBuilder();

        Answers(Caller caller) {
            this.caller = caller;
        }

        void ask(String name, int... numbers) {
            all.append(name);
            for (int v : numbers) {
                all.append(' ').append(v);
            }
            all.append(": ").append(caller.call(name, numbers)).append('\n');
        }

        void looks() {
            for (int what = 0; what <= 10; what++) {
                ask("look", what);
            }
        }

        void halls(int halls) {
            for (int hall = 0; hall < halls; hall++) {
                for (int what = 0; what <= 5; what++) {
                    ask("of", hall, what);
                }
            }
        }

        void prints(int prints, int known) {
            for (int print = 0; print < prints; print++) {
                ask("at", print, 0);
                ask("at", print, 1);
                ask("at", print, 2);
                ask("lead", print, 99, known);
                ask("lead", print, 20, 0);
                ask("off", print, known);
            }
        }

        void crowds(int crowds, int halls, int pictures) {
            for (int crowd = 0; crowd < crowds; crowd++) {
                for (int hall = 0; hall < halls; hall++) {
                    ask("worth", crowd, hall);
                }
                for (int picture = 0; picture < pictures; picture++) {
                    ask("heard", crowd, picture);
                }
            }
        }

        void runs() {
            for (int print = 0; print < 4; print++) {
                for (int hall = 0; hall < 3; hall++) {
                    ask("runs", print, hall, 0);
                    ask("runs", print, hall, 3);
                    ask("runs", print, hall, 4);
                }
            }
            ask("runs", 0, 1, 1);
            ask("runs", 0, 1, 2);
        }

        void orders() {
            for (int what = 0; what <= 3; what++) {
                ask("stage", 7, what);
                ask("wire", 7, what);
            }
            for (int one = 1; one < 7; one++) {
                ask("stage", one, 0);
                ask("wire", one, 0);
            }
            for (int what = 0; what <= 2; what++) {
                ask("faces", 7, 0, what);
                ask("faces", 4, 3, what);
            }
        }

        void money() {
            for (int party = 0; party < 20; party++) {
                ask("clear", 0, party, 0);
                ask("clear", 30, party, 1);
            }
            ask("clear", 0, 0, 3);
            for (int what : new int[] {0, 1, 2, 10, 11, 12}) {
                ask("pool", what);
            }
        }

        void tape(int length) {
            ask("fault", 0);
            ask("fault", 1);
            ask("end", length + 1);
            ask("end", length);
            ask("rules", 1);
            ask("fault", 0);
            ask("fault", 1);
            ask("look", 10);
        }
    }

    /** All that a furnished object answers, now and behind one more WEEK. */
    static String answers(Caller c) {
        Answers a = new Answers(c);
        a.looks();
        a.halls(3);
        a.prints(4, 2);
        a.crowds(4, 3, 3);
        a.runs();
        a.orders();
        a.money();
        a.tape(20);
        a.ask("weeks", 1);
        a.halls(3);
        a.crowds(4, 0, 3);
        a.runs();
        return a.all.toString();
    }

    /** Much of what a new or a full object answers. */
    static String fewAnswers(Caller c) {
        Answers a = new Answers(c);
        a.looks();
        a.prints(3, 0);
        a.halls(2);
        a.crowds(2, 3, 3);
        a.orders();
        for (int what = 0; what <= 12; what++) {
            a.ask("pool", what);
        }
        a.ask("clear", 0, 16, 0);
        a.ask("clear", 0, 17, 1);
        a.ask("clear", 0, 0, 3);
        a.tape(600);
        a.ask("weeks", 1);
        a.halls(2);
        a.looks();
        return a.all.toString();
    }
}
