import java.util.Random;

/** Runs by chance (of fixed seeds), each call asked of the class and of the Oracle: all promises at once. */
public final class ChanceTest {
    private static final int CALLS = 512;
    private static final String[] WORDS = {
        "maker", "track", "tongue", "frames", "wear", "firm", "seats", "band", "price", "week"};

    private final Random chance;
    private final TalkingReels x = new TalkingReels();
    private final Oracle o = new Oracle();
    private final String run;

    private ChanceTest(long seed) {
        chance = new Random(seed);
        run = "run " + seed + ": ";
    }

    public static void main(String[] args) {
        int runs = args.length > 0 ? Integer.parseInt(args[0]) : 600;
        for (int seed = 0; seed < runs; seed++) {
            new ChanceTest(seed).go(seed % 6);
        }
        Check.finish();
    }

    /** The style tells what is asked most. */
    private void go(int style) {
        if (style != 5) {
            furnish();
        }
        int calls = CALLS - 180;
        for (int i = 0; i < calls; i++) {
            switch (style) {
                case 0: halls(chance.nextInt(24)); break;
                case 1: texts(); break;
                case 2: orders(chance.nextInt(8)); break;
                case 3: money(chance.nextInt(8)); break;
                default:
                    switch (chance.nextInt(8)) {
                        case 0: texts(); i += 8; break;
                        case 1: orders(chance.nextInt(8)); break;
                        case 2: money(chance.nextInt(8)); break;
                        default: halls(chance.nextInt(24)); break;
                    }
            }
        }
        looks();
    }

    private void due(String call, long got, long want) {
        Check.due(run + call, got, want);
    }

    private void due(String call, boolean got, boolean want) {
        Check.due(run + call, got, want);
    }

    /** Mostly from a to b, now and then just beside or far off. */
    private int some(int a, int b) {
        int r = chance.nextInt(60);
        if (r == 0) {
            return a - 1;
        }
        if (r == 1) {
            return b + 1;
        }
        if (r == 2) {
            return chance.nextBoolean() ? chance.nextInt() : chance.nextBoolean() ? Integer.MIN_VALUE : Integer.MAX_VALUE;
        }
        if (r < 6) {
            return chance.nextBoolean() ? a : b;
        }
        return b < a ? a : a + chance.nextInt(b - a + 1);
    }

    private int one(int size) {
        return some(0, size - 1);
    }

    private void furnish() {
        int many = 3 + chance.nextInt(10);
        for (int i = 0; i < many; i++) {
            halls(0);
            halls(1);
            halls(1);
            halls(5);
            halls(7);
            halls(8);
            halls(9);
            halls(9);
            halls(12);
        }
    }

    private void halls(int which) {
        int a = one(o.halls.size());
        int p = one(o.prints.size());
        int c = one(o.crowds.size());
        int s = one(o.sets.size());
        switch (which) {
            case 0: picture(); break;
            case 1: {
                int v = one(o.pictures.size());
                due("print " + v, x.print(v), o.print(v));
                break;
            }
            case 2:
            case 3: event(p); break;
            case 4: {
                int f = chance.nextInt(4) == 0 || o.events.isEmpty() ? some(0, 400)
                    : o.events.get(chance.nextInt(o.events.size())).frame() - chance.nextInt(2);
                int k = some(0, o.now);
                due("lead " + p + " " + f + " " + k, x.lead(p, f, k), o.lead(p, f, k));
                due("off " + p + " " + k, x.off(p, k), o.off(p, k));
                break;
            }
            case 5: {
                int t = chance.nextInt(3) > 0 ? 0 : some(0, 3);
                int seats = chance.nextInt(3) > 0 ? some(10, 60) : some(10, 999);
                int price = chance.nextInt(3) > 0 ? some(1, 9) : some(1, 99);
                int band = chance.nextInt(2) > 0 ? some(0, 6) : some(0, 40);
                due("hall", x.hall(t, seats, price, band), o.hall(t, seats, price, band));
                break;
            }
            case 6: {
                int price = chance.nextInt(3) > 0 ? some(1, 9) : some(1, 99);
                int band = chance.nextInt(2) > 0 ? some(0, 6) : some(0, 40);
                due("asks", x.asks(a, price, band), o.asks(a, price, band));
                break;
            }
            case 7: {
                int f = some(0, 2);
                int plays = some(1, 7);
                int h = some(0, 99);
                due("set", x.set(f, plays, h), o.set(f, plays, h));
                break;
            }
            case 8: {
                int h = some(-1, o.halls.size() - 1);
                due("hire " + s + " " + h, x.hire(s, h), o.hire(s, h));
                break;
            }
            case 9:
            case 10:
            case 11: {
                int h = some(-1, o.halls.size() - 1);
                due("book " + p + " " + h, x.book(p, h), o.book(p, h));
                break;
            }
            case 12: {
                int t = chance.nextInt(3) > 0 ? 0 : some(0, 3);
                int tongue = chance.nextInt(2) > 0 ? some(0, 1) : some(0, 4);
                int taste = some(0, 3);
                int many = chance.nextInt(3) > 0 ? some(0, 900) : some(0, 9999);
                int purse = some(0, 99);
                due("crowd", x.crowd(t, tongue, taste, many, purse), o.crowd(t, tongue, taste, many, purse));
                break;
            }
            case 13: {
                int w = some(0, 4);
                due("runs " + p + " " + a + " " + w, x.runs(p, a, w), o.runs(p, a, w));
                break;
            }
            case 14:
            case 15: due("worth " + c + " " + a, x.worth(c, a), o.worth(c, a)); break;
            case 16: {
                int v = one(o.pictures.size());
                due("heard " + c + " " + v, x.heard(c, v), o.heard(c, v));
                break;
            }
            case 17:
            case 18:
            case 19: {
                int n = chance.nextInt(8) == 0 ? some(1, 20) : some(1, 2);
                due("weeks " + n, x.weeks(n), o.weeks(n));
                break;
            }
            case 20:
            case 21: {
                int w = some(0, 5);
                due("of " + a + " " + w, x.of(a, w), o.of(a, w));
                break;
            }
            case 22: {
                int w = some(0, 2);
                due("at " + p + " " + w, x.at(p, w), o.at(p, w));
                break;
            }
            default: {
                int w = some(0, 10);
                due("look " + w, x.look(w), o.look(w));
                break;
            }
        }
    }

    private void picture() {
        boolean silent = chance.nextInt(4) == 0;
        int tongue = silent ? 5 : chance.nextInt(2) > 0 ? some(0, 1) : some(0, 4);
        int track = silent ? 3 : chance.nextInt(2) > 0 ? 0 : some(0, 2);
        int maker = some(0, 2);
        int taste = some(0, 3);
        int frames = some(100, 400);
        due("picture", x.picture(maker, tongue, taste, track, frames), o.picture(maker, tongue, taste, track, frames));
    }

    private void event(int p) {
        int kind = some(0, 3);
        int frame = kind == 3 && chance.nextInt(9) > 0 ? 0 : some(0, 200);
        int n = kind == 2 ? some(-9, 9) : kind == 3 ? some(-5, 5) : chance.nextInt(3) > 0 ? some(1, 4) : some(1, 99);
        due("event " + p + " " + kind + " " + frame + " " + n, x.event(p, kind, frame, n), o.event(p, kind, frame, n));
    }

    private void texts() {
        String text = text();
        for (int i = 0; i < text.length(); i += 20) {
            int[] v = new int[5];
            for (int k = 0; k < 5; k++) {
                v[k] = Check.four(text, i + 4 * k);
            }
            due("feed", x.feed(v[0], v[1], v[2], v[3], v[4]), o.feed(v[0], v[1], v[2], v[3], v[4]));
        }
        int to = chance.nextInt(12) == 0 ? some(0, o.tape.length()) : Math.min(text.length(), o.tape.length());
        due("end " + to, x.end(to), o.end(to));
        int firm = some(0, 2);
        String told = o.tape;
        due("rules " + firm + " [" + told + "]", x.rules(firm), o.rules(firm));
        for (int w = 0; w < 2; w++) {
            due("fault " + w + " [" + told + "]", x.fault(w), o.fault(w));
        }
        for (int w = 0; w < 5; w++) {
            int p = one(o.prints.size());
            int h = one(o.halls.size());
            due("runs " + p + " " + h + " " + w + " [" + told + "]", x.runs(p, h, w), o.runs(p, h, w));
        }
    }

    private String text() {
        StringBuilder all = new StringBuilder();
        int lines = chance.nextInt(12) == 0 ? 19 + chance.nextInt(4) : chance.nextInt(6);
        boolean small = lines > 6;
        for (int i = 0; i < lines; i++) {
            String kind = new String[] {"bar", "fee", "keep"}[chance.nextInt(3)];
            all.append(kind).append(' ');
            if (!kind.equals("bar")) {
                all.append(small ? number() : value(chance.nextInt(3)));
                if (chance.nextBoolean() && !small) {
                    all.append(" when ").append(condition(chance.nextInt(4)));
                }
            } else {
                all.append(small ? "1<" + number() : condition(chance.nextInt(4)));
            }
            all.append(chance.nextBoolean() ? ";" : " ;\n");
        }
        if (chance.nextInt(3) == 0) {
            spoil(all);
        }
        return all.length() > 600 ? all.substring(0, 600) : all.toString();
    }

    private void spoil(StringBuilder all) {
        String[] bad = {
            "", " ", "(", ")", "not ", "/ 0", "00", "12345", ";", "and", "or", "when", "x", "\t", "/", "*", "+", "=", "<",
            "bar ", "fee ", "wear", "Bar", "\u00ff", "((((((((", "not not not not not not not not not "};
        int times = 1 + chance.nextInt(2);
        for (int i = 0; i < times; i++) {
            int from = chance.nextInt(all.length() + 1);
            int to = Math.min(all.length(), from + chance.nextInt(3));
            all.replace(from, to, bad[chance.nextInt(bad.length)]);
        }
    }

    private String number() {
        switch (chance.nextInt(4)) {
            case 0: return String.valueOf(chance.nextInt(10000));
            case 1: return "000" + chance.nextInt(10);
            default: return String.valueOf(chance.nextInt(13));
        }
    }

    private String operand() {
        return chance.nextInt(3) == 0 ? number() : WORDS[chance.nextInt(WORDS.length)];
    }

    private String value(int more) {
        StringBuilder all = new StringBuilder(operand());
        for (int i = 0; i < more; i++) {
            char sign = "+-*/".charAt(chance.nextInt(4));
            all.append(chance.nextBoolean() ? " " : "").append(sign).append(chance.nextBoolean() ? " " : "");
            all.append(sign == '/' ? number() : operand());
        }
        return all.toString();
    }

    private String condition(int depth) {
        int r = chance.nextInt(8);
        if (depth == 0 || r < 2) {
            return value(chance.nextInt(3)) + " " + "<=>".charAt(chance.nextInt(3)) + " " + value(chance.nextInt(2));
        }
        if (r < 4) {
            return condition(depth - 1) + " and " + condition(depth - 1);
        }
        if (r < 6) {
            return condition(depth - 1) + " or " + condition(depth - 1);
        }
        return r == 6 ? "not " + condition(depth - 1) : "(" + condition(depth - 1) + ")";
    }

    private void orders(int which) {
        switch (which) {
            case 0: {
                int n = some(1, 20);
                if (o.nights.size() < 6 || chance.nextInt(30) == 0) {
                    due("version", x.version(n), o.version(n));
                }
                break;
            }
            case 1: {
                int a = one(o.nights.size());
                int b = one(o.nights.size());
                int n = chance.nextInt(2) > 0 ? some(0, 2) : some(0, 9);
                due("change", x.change(a, b, n), o.change(a, b, n));
                break;
            }
            case 2: {
                int set = some(1, (1 << o.nights.size()) - 1);
                int what = some(0, Math.max(0, Math.min(9, Integer.bitCount(set))));
                if (Integer.bitCount(set) <= 6) {
                    due("stage " + set + " " + what, x.stage(set, what), o.stage(set, what));
                }
                break;
            }
            case 3: {
                int t = chance.nextInt(2) > 0 ? 1 << chance.nextInt(5) : some(1, 31);
                int v = some(0, 9);
                due("person", x.person(t, v), o.person(t, v));
                break;
            }
            case 4: {
                int t = some(1, 31);
                int v = chance.nextInt(2) > 0 ? some(0, 2) : some(0, 9);
                int w = some(0, 2);
                due("faces " + t + " " + v + " " + w, x.faces(t, v, w), o.faces(t, v, w));
                break;
            }
            case 5: {
                int h = one(o.halls.size());
                int w = some(1, 9);
                int l = chance.nextInt(2) > 0 ? some(0, 9) : some(0, 999);
                due("needs", x.needs(h, w, l), o.needs(h, w, l));
                break;
            }
            default: {
                int set = some(1, (1 << o.halls.size()) - 1);
                for (int i = 0; i < 16 && Integer.bitCount(set) > 6 && chance.nextInt(40) > 0; i++) {
                    set &= ~(1 << chance.nextInt(16));
                }
                int what = some(0, Math.min(9, Integer.bitCount(set)));
                if (Integer.bitCount(set) <= 6 || Integer.bitCount(set) > 9) {
                    due("wire " + set + " " + what, x.wire(set, what), o.wire(set, what));
                }
                break;
            }
        }
    }

    private void money(int which) {
        switch (which) {
            case 0:
            case 1: {
                int a = chance.nextInt(2) > 0 ? some(15, 19) : one(20);
                int b = chance.nextInt(2) > 0 ? some(15, 19) : one(20);
                int v = chance.nextInt(2) > 0 ? some(0, 300) : some(0, 99999);
                due("owe", x.owe(a, b, v), o.owe(a, b, v));
                break;
            }
            case 2: {
                int a = some(16, 19);
                int v = chance.nextInt(2) > 0 ? some(0, 300) : some(0, 99999);
                due("purse", x.purse(a, v), o.purse(a, v));
                break;
            }
            case 3:
            case 4: {
                int f = chance.nextInt(2) > 0 ? 0 : some(0, 100);
                int a = chance.nextInt(2) > 0 ? some(16, 19) : one(20);
                int w = some(0, 3);
                due("clear " + f + " " + a + " " + w, x.clear(f, a, w), o.clear(f, a, w));
                break;
            }
            case 5: {
                int a = some(-9, 9);
                int b = some(-9, 9);
                int c = some(-9, 9);
                if (chance.nextInt(4) == 0) {
                    due("clause", x.clause(a, b, c), o.clause(a, b, c));
                }
                break;
            }
            case 6: {
                int f = some(0, 2);
                int v = chance.nextInt(3) > 0 ? some(-9, 9) : some(-999, 999);
                due("stand", x.stand(f, v), o.stand(f, v));
                break;
            }
            default: {
                int w = chance.nextBoolean() ? some(0, 2) : some(10, 12);
                due("pool " + w, x.pool(w), o.pool(w));
                break;
            }
        }
    }

    private void looks() {
        for (int what = 0; what <= 10; what++) {
            due("look " + what, x.look(what), o.look(what));
        }
        for (int h = 0; h < o.halls.size(); h++) {
            for (int what = 0; what < 6; what++) {
                due("of " + h + " " + what, x.of(h, what), o.of(h, what));
            }
        }
    }
}
