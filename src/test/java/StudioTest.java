/** Promises 23 to 29: VERSIONS on a stage, FACES, and WIRING. */
public final class StudioTest {

    public static void main(String[] args) {
        version();
        change();
        stage();
        stageOfNine();
        person();
        faces();
        facesOfFive();
        needs();
        wire();
        wireByTown();
        wireOfNine();
        Check.finish();
    }

    private static void version() {
        TalkingReels x = new TalkingReels();
        Check.due("version(0)", x.version(0), -1);
        Check.due("version(21)", x.version(21), -1);
        Check.due("version(-5)", x.version(-5), -1);
        for (int i = 0; i < 9; i++) {
            Check.due("version " + i, x.version(i % 2 == 0 ? 1 : 20), i);
        }
        Check.due("version 9", x.version(1), -1);
        Check.due("all nights", x.stage(511, 0), 5 + 4 * 20);
    }

    private static void change() {
        TalkingReels x = new TalkingReels();
        Check.due("change of none", x.change(0, 1, 1), false);
        x.version(1);
        x.version(1);
        int[][] cannotBe = {{-1, 0, 1}, {0, -1, 1}, {0, 2, 1}, {2, 0, 1}, {0, 0, 1}, {0, 1, -1}, {0, 1, 10}};
        for (int[] c : cannotBe) {
            Check.due("change that can't be", x.change(c[0], c[1], c[2]), false);
        }
        Check.due("changes are 0", x.stage(3, 0), 2);
        Check.due("change(0, 1, 9)", x.change(0, 1, 9), true);
        Check.due("the other way", x.stage(3, 0), 2);
        Check.due("is made first", x.stage(3, 1), 1);
        Check.due("change(1, 0, 8)", x.change(1, 0, 8), true);
        Check.due("the lesser one", x.stage(3, 0), 10);
        Check.due("change(0, 1, 0)", x.change(0, 1, 0), true);
        Check.due("told again", x.stage(3, 0), 2);
        Check.due("first of it", x.stage(3, 1), 0);
    }

    private static void stage() {
        TalkingReels x = new TalkingReels();
        Check.due("stage of none", x.stage(1, 0), -1);
        x.version(3);
        x.version(5);
        x.version(7);
        int[] sets = {0, -1, 8, 9, 15, Integer.MIN_VALUE, Integer.MAX_VALUE};
        for (int set : sets) {
            Check.due("stage of " + set, x.stage(set, 0), -1);
        }
        Check.due("without changes", x.stage(7, 0), 15);
        for (int i = 1; i <= 3; i++) {
            Check.due("by the numbers", x.stage(7, i), i - 1);
        }
        Check.due("stage(7, 4)", x.stage(7, 4), -1);
        Check.due("stage(7, -1)", x.stage(7, -1), -1);
        Check.due("stage(7, 10)", x.stage(7, 10), -1);
        Check.due("stage(5, 0)", x.stage(5, 0), 10);
        Check.due("stage(5, 2)", x.stage(5, 2), 2);
        Check.due("stage(5, 3)", x.stage(5, 3), -1);
        Check.due("stage(4, 1)", x.stage(4, 1), 2);
        x.change(0, 1, 1);
        x.change(0, 2, 1);
        x.change(1, 0, 1);
        x.change(2, 0, 1);
        Check.due("a way of one", x.stage(7, 0), 16);
        int[] order = {0, 1, 2};
        for (int i = 1; i <= 3; i++) {
            Check.due("first of several", x.stage(7, i), order[i - 1]);
        }
    }

    private static void stageOfNine() {
        TalkingReels x = new TalkingReels();
        int[] order = {4, 7, 1, 8, 0, 3, 6, 2, 5};
        for (int i = 0; i < 9; i++) {
            x.version(2);
        }
        for (int a = 0; a < 9; a++) {
            for (int b = 0; b < 9; b++) {
                x.change(a, b, 9);
            }
        }
        for (int i = 0; i < 8; i++) {
            x.change(order[i], order[i + 1], 1);
        }
        Check.due("nights of nine", x.stage(511, 0), 26);
        for (int i = 0; i < 9; i++) {
            Check.due("version made as " + i, x.stage(511, i + 1), order[i]);
        }
        Check.due("without the middle", x.stage(511 - 1, 0), 16 + 6 + 9);
    }

    private static void person() {
        TalkingReels x = new TalkingReels();
        int[][] cannotBe = {{0, 0}, {32, 0}, {-1, 0}, {1, -1}, {1, 10}};
        for (int[] p : cannotBe) {
            Check.due("person that can't be", x.person(p[0], p[1]), -1);
        }
        for (int i = 0; i < 14; i++) {
            Check.due("person " + i, i % 2 == 0 ? x.person(1, 0) : x.person(31, 9), i);
        }
        Check.due("person 14", x.person(1, 0), -1);
        Check.due("how many sets", x.faces(1, 0, 2), 14);
    }

    private static void faces() {
        TalkingReels x = new TalkingReels();
        Check.due("faces of none", x.faces(1, 0, 0), -1);
        x.person(1, 9);
        x.person(2, 5);
        x.person(6, 4);
        x.person(1, 4);
        int[][] cannotBe = {{0, 0, 0}, {32, 0, 0}, {-1, 0, 0}, {1, -1, 0}, {1, 10, 0}, {1, 0, -1}, {1, 0, 3}, {8, 0, 0}};
        for (int[] f : cannotBe) {
            Check.due("faces that can't be", x.faces(f[0], f[1], f[2]), -1);
        }
        Check.due("one of 2", x.faces(2, 0, 0), 1);
        Check.due("the least", x.faces(2, 0, 1), 2);
        Check.due("two of it", x.faces(2, 0, 2), 2);
        Check.due("two for 3", x.faces(3, 0, 0), 2);
        Check.due("the least for 3", x.faces(3, 0, 1), 3);
        Check.due("four for 3", x.faces(3, 0, 2), 4);
        Check.due("a voice of 5 for 3", x.faces(3, 5, 2), 1);
        Check.due("two for 7", x.faces(7, 4, 1), 5);
        Check.due("two of them for 7", x.faces(7, 4, 2), 2);
        Check.due("none for 7 of a voice of 5", x.faces(7, 5, 0), -1);
        Check.due("none for 7: the set", x.faces(7, 5, 1), -1);
        Check.due("none for 7: how many", x.faces(7, 5, 2), -1);
        Check.due("a voice of 9", x.faces(1, 9, 1), 1);
        Check.due("a voice of 9 for 2", x.faces(2, 9, 0), -1);
    }

    private static void facesOfFive() {
        TalkingReels x = new TalkingReels();
        for (int i = 0; i < 14; i++) {
            x.person(1 << i % 5, 3);
        }
        Check.due("five", x.faces(31, 3, 0), 5);
        Check.due("the first five", x.faces(31, 3, 1), 31);
        Check.due("how many", x.faces(31, 3, 2), 3 * 3 * 3 * 3 * 2);
        Check.due("none of a voice of 4", x.faces(31, 4, 0), -1);
    }

    private static void needs() {
        TalkingReels x = new TalkingReels();
        Check.due("needs of none", x.needs(0, 1, 1), false);
        x.hall(0, 10, 1, 0);
        x.hall(1, 10, 1, 0);
        int[][] cannotBe = {{-1, 1, 1}, {2, 1, 1}, {0, 0, 1}, {0, 10, 1}, {0, 1, -1}, {0, 1, 1000}};
        for (int[] n : cannotBe) {
            Check.due("needs that can't be", x.needs(n[0], n[1], n[2]), false);
        }
        Check.due("0 at first", x.wire(3, 0), 0);
        Check.due("needs(1, 1, 10)", x.needs(1, 1, 10), true);
        Check.due("one week there, one of work", x.wire(2, 0), 20);
        Check.due("first", x.wire(3, 1), 1);
        Check.due("needs(1, 9, 999)", x.needs(1, 9, 999), true);
        Check.due("nine weeks of work", x.wire(2, 0), 9990);
        Check.due("needs(0, 1, 0)", x.needs(0, 1, 0), true);
    }

    private static void wire() {
        TalkingReels x = new TalkingReels();
        Check.due("wire of none", x.wire(1, 0), -1);
        for (int i = 0; i < 10; i++) {
            x.hall(0, 10, 1, 0);
        }
        int[] sets = {0, -1, 1024, 1023, 1025, Integer.MIN_VALUE, Integer.MAX_VALUE};
        for (int set : sets) {
            Check.due("wire of " + set, x.wire(set, 0), -1);
        }
        Check.due("nine of ten", x.wire(1022, 0), 0);
        for (int i = 1; i <= 9; i++) {
            Check.due("by the numbers", x.wire(1022, i), i);
        }
        Check.due("wire(1022, 10)", x.wire(1022, 10), -1);
        Check.due("wire(1022, -1)", x.wire(1022, -1), -1);
        Check.due("wire(512, 1)", x.wire(512, 1), 9);
        Check.due("wire(512, 2)", x.wire(512, 2), -1);
        x.needs(2, 3, 10);
        x.needs(5, 1, 10);
        Check.due("the short one first", x.wire(36, 1), 5);
        Check.due("then the long one", x.wire(36, 2), 2);
        Check.due("their loss", x.wire(36, 0), 10 + 40);
        x.needs(5, 3, 10);
        Check.due("the same: by the numbers", x.wire(36, 1), 2);
    }

    private static void wireByTown() {
        TalkingReels x = new TalkingReels();
        x.hall(3, 10, 1, 0);
        x.hall(1, 10, 1, 0);
        x.hall(2, 10, 1, 0);
        for (int i = 0; i < 3; i++) {
            x.needs(i, 1, 10);
        }
        int[] order = {1, 2, 0};
        for (int i = 1; i <= 3; i++) {
            Check.due("by the way", x.wire(7, i), order[i - 1]);
        }
        Check.due("the loss by the way", x.wire(7, 0), 20 + 40 + 60);
        Check.due("to the farthest one", x.wire(1, 0), 40);
        x.needs(0, 1, 999);
        Check.due("the dearest first", x.wire(7, 1), 0);
        Check.due("then back", x.wire(7, 2), 2);
        Check.due("its loss", x.wire(7, 0), 4 * 999 + 6 * 10 + 8 * 10);
    }

    private static void wireOfNine() {
        TalkingReels x = new TalkingReels();
        for (int i = 0; i < 9; i++) {
            x.hall(0, 10, 1, 0);
            x.needs(i, 9, 100 + i);
        }
        int loss = 0;
        for (int i = 0; i < 9; i++) {
            Check.due("the greatest loss first", x.wire(511, i + 1), 8 - i);
            loss += 9 * (i + 1) * (108 - i);
        }
        Check.due("the loss of nine", x.wire(511, 0), loss);
    }
}
