import java.util.LinkedHashMap;
import java.util.Map;

/** For each number that a method takes: what stands at the ends and just beyond them. */
final class Edges {
    private static final int[] PRINTS = {-1, 0, 1, 3, 4, 29, 30};
    private static final int[] HALLS = {-1, 0, 2, 3, 15, 16};
    private static final int[] HALLS_OR_NONE = {-2, -1, 0, 2, 3, 15, 16};
    private static final int[] WEEKS = {-1, 0, 1, 2, 3, 199, 200};
    private static final int[] FEW = {-1, 0, 1, 2, 3};
    private static final int[] PARTIES = {-1, 0, 15, 16, 18, 19, 20};
    private static final int[] MANY_COINS = {-1, 0, 99999, 100000};
    private static final int[] BYTES = {0, 0x66656520};

    private Edges() {
    }

    static Map<String, int[][]> all() {
        Map<String, int[][]> all = new LinkedHashMap<>();
        halls(all);
        others(all);
        return all;
    }

    private static void put(Map<String, int[][]> all, String name, int[]... numbers) {
        all.put(name, numbers);
    }

    private static int[] of(int... numbers) {
        return numbers;
    }

    private static void halls(Map<String, int[][]> all) {
        put(all, "picture", of(-1, 0, 2, 3), of(-1, 0, 4, 5, 6), of(-1, 0, 3, 4), of(-1, 0, 2, 3, 4), of(99, 100, 9999, 10000));
        put(all, "print", of(-1, 0, 2, 3, 11, 12));
        put(all, "event", PRINTS, of(-1, 0, 1, 2, 3, 4), of(-1, 0, 1, 99, 100, 9998, 9999),
            of(-100, -99, -10, -9, -1, 0, 1, 9, 10, 99, 100));
        put(all, "lead", PRINTS, of(-1, 0, 1, 99, 100, 9998, 9999), WEEKS);
        put(all, "off", PRINTS, WEEKS);
        put(all, "hall", of(-1, 0, 3, 4), of(9, 10, 999, 1000), of(0, 1, 99, 100), of(-1, 0, 40, 41));
        put(all, "asks", HALLS, of(0, 1, 99, 100), of(-1, 0, 40, 41));
        put(all, "set", of(-1, 0, 2, 3), of(0, 1, 7, 8), of(-1, 0, 99, 100));
        put(all, "hire", of(-1, 0, 1, 2, 3, 19, 20), HALLS_OR_NONE);
        put(all, "book", PRINTS, HALLS_OR_NONE);
        put(all, "feed", BYTES, BYTES, BYTES, BYTES, BYTES);
        put(all, "end", of(-1, 0, 1, 19, 20, 21, 599, 600, 601));
        put(all, "rules", of(-1, 0, 1, 2, 3));
        put(all, "fault", of(-1, 0, 1, 2));
        put(all, "runs", PRINTS, HALLS, of(-1, 0, 1, 2, 3, 4, 5));
        put(all, "crowd", of(-1, 0, 3, 4), of(-1, 0, 4, 5), of(-1, 0, 3, 4), of(-1, 0, 9999, 10000), of(-1, 0, 99, 100));
        put(all, "worth", of(-1, 0, 3, 4, 15, 16), HALLS);
        put(all, "heard", of(-1, 0, 3, 4, 15, 16), of(-1, 0, 2, 3, 11, 12));
        put(all, "weeks", of(-1, 0, 1, 20, 21));
        put(all, "of", HALLS, of(-1, 0, 1, 2, 3, 4, 5, 6));
        put(all, "at", PRINTS, FEW);
    }

    private static void others(Map<String, int[][]> all) {
        put(all, "version", of(0, 1, 20, 21));
        put(all, "change", of(-1, 0, 2, 3, 8, 9), of(-1, 0, 1, 2, 3, 8, 9), of(-1, 0, 9, 10));
        put(all, "stage", of(-1, 0, 1, 4, 7, 8, 9, 256, 512, 513), of(-1, 0, 1, 2, 3, 4, 9, 10));
        put(all, "person", of(0, 1, 31, 32), of(-1, 0, 9, 10));
        put(all, "faces", of(-1, 0, 1, 7, 31, 32), of(-1, 0, 6, 7, 9, 10), FEW);
        put(all, "needs", HALLS, of(0, 1, 9, 10), of(-1, 0, 999, 1000));
        put(all, "wire", of(-1, 0, 1, 7, 8, 9, 1023, 32768, 32769, 65535, 65536, 65537), of(-1, 0, 1, 2, 3, 4, 9, 10));
        put(all, "owe", PARTIES, PARTIES, MANY_COINS);
        put(all, "purse", PARTIES, MANY_COINS);
        put(all, "clear", of(-1, 0, 1, 99, 100, 101), PARTIES, of(-1, 0, 1, 2, 3, 4));
        put(all, "clause", of(-100, -99, 99, 100), of(-100, -99, 99, 100), of(-100, -99, 99, 100));
        put(all, "stand", of(-1, 0, 2, 3), of(-1000, -999, 999, 1000));
        put(all, "pool", of(-1, 0, 1, 2, 3, 9, 10, 11, 12, 13));
        put(all, "look", of(-1, 0, 1, 2, 3, 4, 5, 6, 7, 8, 9, 10, 11));
    }
}
