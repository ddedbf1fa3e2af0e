import java.util.ArrayList;
import java.util.Arrays;
import java.util.List;
import java.util.function.ToIntFunction;

/** The document a second time, told as slowly and as plainly as can be, for runs by chance. */
final class Oracle {
    record Picture(int maker, int tongue, int taste, int track, int frames) { }

    record Event(int print, int kind, int frame, int n, int week) { }

    record Going(int crowd, int hall) { }

    record Line(String kind, ToIntFunction<int[]> value, ToIntFunction<int[]> so) { }

    static final class Print {
        int picture;
        int wear;
        int hall = -1;
    }

    static final class Hall {
        int town;
        int seats;
        int price;
        int band;
        long coin;
        long last;
        long took;
        long all;
        int weeks = 1;
        int loss;
    }

    static final class Player {
        int firm;
        int plays;
        int hire;
        int hall = -1;
    }

    static final class Crowd {
        int town;
        int tongue;
        int taste;
        int many;
        int purse;
        int[] heard = new int[12];
    }

    final List<Picture> pictures = new ArrayList<>();
    final List<Print> prints = new ArrayList<>();
    final List<Event> events = new ArrayList<>();
    final List<Hall> halls = new ArrayList<>();
    final List<Player> sets = new ArrayList<>();
    final List<Crowd> crowds = new ArrayList<>();
    final List<Integer> nights = new ArrayList<>();
    final int[][] changes = new int[9][9];
    final List<int[]> persons = new ArrayList<>();
    final int[][] owes = new int[20][20];
    final int[] purses = new int[20];
    final List<int[]> clauses = new ArrayList<>();
    final int[] stands = new int[3];
    String tape = "";
    final List<List<Line>> rules = new ArrayList<>(List.of(List.of(), List.of(), List.of()));
    int fault;
    int place = -1;
    int now;

    static boolean in(int v, int a, int b) {
        return a <= v && v <= b;
    }

    int picture(int maker, int tongue, int taste, int track, int frames) {
        if (!in(maker, 0, 2) || !in(tongue, 0, 5) || !in(taste, 0, 3) || !in(track, 0, 3) || !in(frames, 100, 9999)) {
            return -1;
        }
        if (tongue == 5 && track != 3 || tongue != 5 && track == 3 || pictures.size() == 12) {
            return -1;
        }
        pictures.add(new Picture(maker, tongue, taste, track, frames));
        return pictures.size() - 1;
    }

    int print(int picture) {
        if (!in(picture, 0, pictures.size() - 1) || prints.size() == 30) {
            return -1;
        }
        Print p = new Print();
        p.picture = picture;
        prints.add(p);
        return prints.size() - 1;
    }

    Picture shown(int print) {
        return pictures.get(prints.get(print).picture);
    }

    int event(int print, int kind, int frame, int n) {
        if (!in(print, 0, prints.size() - 1) || !in(kind, 0, 3) || !in(frame, 0, shown(print).frames - 1)) {
            return -1;
        }
        if (kind < 2 && !in(n, 1, 99) || kind == 2 && (!in(n, -9, 9) || n == 0)) {
            return -1;
        }
        if (kind == 3 && (!in(n, -99, 99) || frame != 0) || events.size() == 150) {
            return -1;
        }
        events.add(new Event(print, kind, frame, n, now));
        return events.size();
    }

    int[] leads(int print, int known) {
        int[] all = new int[shown(print).frames];
        if (shown(print).track != 0) {
            return all;
        }
        int start = 0;
        for (Event e : events) {
            if (e.print != print || e.week > known) {
                continue;
            }
            if (e.kind == 3) {
                start = e.n;
                continue;
            }
            int more = e.kind == 0 ? -e.n : e.kind == 1 ? e.n : 33 * e.n;
            for (int f = e.frame; f < all.length; f++) {
                all[f] += more;
            }
        }
        for (int f = 0; f < all.length; f++) {
            all[f] += start;
        }
        return all;
    }

    int lead(int print, int frame, int known) {
        if (!in(print, 0, prints.size() - 1) || !in(known, 0, now) || !in(frame, 0, shown(print).frames - 1)) {
            return -9999;
        }
        return leads(print, known)[frame];
    }

    int off(int print, int known) {
        if (!in(print, 0, prints.size() - 1) || !in(known, 0, now)) {
            return -1;
        }
        int[] all = leads(print, known);
        for (int f = 0; f < all.length; f++) {
            if (Math.abs(all[f]) > 3) {
                return f;
            }
        }
        return -1;
    }

    int hall(int town, int seats, int price, int band) {
        if (!in(town, 0, 3) || !in(seats, 10, 999) || !in(price, 1, 99) || !in(band, 0, 40) || halls.size() == 16) {
            return -1;
        }
        Hall h = new Hall();
        h.town = town;
        h.seats = seats;
        h.price = price;
        h.band = band;
        halls.add(h);
        return halls.size() - 1;
    }

    boolean asks(int hall, int price, int band) {
        if (!in(hall, 0, halls.size() - 1) || !in(price, 1, 99) || !in(band, 0, 40)) {
            return false;
        }
        halls.get(hall).price = price;
        halls.get(hall).band = band;
        return true;
    }

    int set(int firm, int plays, int hire) {
        if (!in(firm, 0, 2) || !in(plays, 1, 7) || !in(hire, 0, 99) || sets.size() == 20) {
            return -1;
        }
        Player s = new Player();
        s.firm = firm;
        s.plays = plays;
        s.hire = hire;
        sets.add(s);
        return sets.size() - 1;
    }

    int setIn(int hall) {
        for (int i = 0; i < sets.size(); i++) {
            if (sets.get(i).hall == hall) {
                return i;
            }
        }
        return -1;
    }

    int printIn(int hall) {
        for (int i = 0; i < prints.size(); i++) {
            if (prints.get(i).hall == hall) {
                return i;
            }
        }
        return -1;
    }

    boolean hire(int set, int hall) {
        if (!in(set, 0, sets.size() - 1) || !in(hall, -1, halls.size() - 1) || sets.get(set).hall == hall) {
            return false;
        }
        if (hall >= 0 && setIn(hall) >= 0) {
            return false;
        }
        sets.get(set).hall = hall;
        return true;
    }

    boolean book(int print, int hall) {
        if (!in(print, 0, prints.size() - 1) || !in(hall, -1, halls.size() - 1) || prints.get(print).hall == hall) {
            return false;
        }
        if (hall >= 0 && printIn(hall) >= 0) {
            return false;
        }
        prints.get(print).hall = hall;
        return true;
    }

    int feed(int a, int b, int c, int d, int e) {
        if (tape.length() > 580) {
            return -1;
        }
        StringBuilder all = new StringBuilder(tape);
        for (int v : new int[] {a, b, c, d, e}) {
            for (int i = 3; i >= 0; i--) {
                all.append((char) (v >> 8 * i & 255));
            }
        }
        tape = all.toString();
        return tape.length();
    }

    boolean end(int n) {
        if (!in(n, 0, tape.length())) {
            return false;
        }
        tape = tape.substring(0, n);
        return true;
    }

    int rules(int firm) {
        String text = tape;
        tape = "";
        fault = 0;
        place = -1;
        if (!in(firm, 0, 2)) {
            return -1;
        }
        OracleRules reader = new OracleRules(text);
        fault = reader.fault;
        place = reader.place;
        if (fault != 0) {
            return -1;
        }
        rules.set(firm, reader.lines());
        return rules.get(firm).size();
    }

    int fault(int what) {
        return what == 0 ? fault : what == 1 ? place : -1;
    }

    /** Why it does not run, the firm, the line, FEE, KEEP. */
    int[] judged(int print, int hall) {
        Picture p = shown(print);
        Hall h = halls.get(hall);
        int set = setIn(hall);
        int firm = set < 0 ? 3 : sets.get(set).firm;
        int[] facts = {p.maker, p.track, p.tongue, p.frames, prints.get(print).wear, firm, h.seats, h.band, h.price, now};
        int[] all = {0, -1, -1, 0, 0};
        List<Integer> keeps = new ArrayList<>(List.of(0));
        for (int f = 2; f >= 0; f--) {
            List<Integer> fees = new ArrayList<>(List.of(0));
            for (int i = rules.get(f).size() - 1; i >= 0; i--) {
                Line line = rules.get(f).get(i);
                if (line.so.applyAsInt(facts) == 0) {
                    continue;
                }
                switch (line.kind) {
                    case "bar" -> {
                        all[1] = f;
                        all[2] = i;
                    }
                    case "fee" -> fees.add(line.value.applyAsInt(facts));
                    default -> keeps.add(line.value.applyAsInt(facts));
                }
            }
            all[3] += Math.min(99999, fees.stream().max(Integer::compare).get());
        }
        all[4] = Math.min(40, keeps.stream().max(Integer::compare).get());
        if (prints.get(print).wear == 12) {
            all[0] = 1;
        } else if (p.track < 3 && (set < 0 || (sets.get(set).plays & 1 << p.track) == 0)) {
            all[0] = 2;
        } else if (p.tongue == 5 && h.band == 0) {
            all[0] = 3;
        } else if (all[1] >= 0) {
            all[0] = 4;
        }
        return all;
    }

    int runs(int print, int hall, int what) {
        if (!in(print, 0, prints.size() - 1) || !in(hall, 0, halls.size() - 1) || !in(what, 0, 4)) {
            return -1;
        }
        return judged(print, hall)[what];
    }

    int crowd(int town, int tongue, int taste, int many, int purse) {
        if (!in(town, 0, 3) || !in(tongue, 0, 4) || !in(taste, 0, 3) || !in(many, 0, 9999) || !in(purse, 0, 99)) {
            return -1;
        }
        if (crowds.size() == 16) {
            return -1;
        }
        Crowd c = new Crowd();
        c.town = town;
        c.tongue = tongue;
        c.taste = taste;
        c.many = many;
        c.purse = purse;
        crowds.add(c);
        return crowds.size() - 1;
    }

    int worth(int crowd, int hall) {
        if (!in(crowd, 0, crowds.size() - 1) || !in(hall, 0, halls.size() - 1)) {
            return -99;
        }
        Crowd c = crowds.get(crowd);
        Hall h = halls.get(hall);
        int print = printIn(hall);
        if (print < 0 || judged(print, hall)[0] != 0 || c.town != h.town || c.purse < h.price) {
            return -99;
        }
        Picture p = shown(print);
        return (p.tongue == c.tongue ? 4 : 0) + (p.tongue == 5 ? 2 : 0) + (p.taste == c.taste ? 3 : 0)
            + c.heard[prints.get(print).picture] - (off(print, now) >= 0 ? 4 : 0);
    }

    int heard(int crowd, int picture) {
        if (!in(crowd, 0, crowds.size() - 1) || !in(picture, 0, pictures.size() - 1)) {
            return -99;
        }
        return crowds.get(crowd).heard[picture];
    }

    void week() {
        int n = halls.size();
        int[] went = new int[n];
        int[][] worths = new int[crowds.size()][n];
        for (int c = 0; c < crowds.size(); c++) {
            for (int h = 0; h < n; h++) {
                worths[c][h] = worth(c, h);
            }
        }
        List<Going> goings = new ArrayList<>();
        for (int c = 0; c < crowds.size(); c++) {
            int crowd = c;
            List<Integer> ways = new ArrayList<>();
            for (int h = 0; h < n; h++) {
                ways.add(h);
            }
            ways.removeIf(h -> worths[crowd][h] <= 0);
            ways.sort((a, b) -> worths[crowd][a] != worths[crowd][b] ? worths[crowd][b] - worths[crowd][a]
                : halls.get(a).price != halls.get(b).price ? halls.get(a).price - halls.get(b).price : a - b);
            int rest = crowds.get(c).many;
            for (int h : ways) {
                int some = Math.min(rest, 7 * halls.get(h).seats - went[h]);
                if (some > 0) {
                    goings.add(new Going(c, h));
                    went[h] += some;
                    rest -= some;
                }
            }
        }
        List<Integer> running = new ArrayList<>();
        for (int i = 0; i < n; i++) {
            Hall h = halls.get(i);
            int print = printIn(i);
            int set = setIn(i);
            h.last = went[i];
            h.took = (long) went[i] * h.price;
            h.all += went[i];
            if (print >= 0) {
                int[] all = judged(print, i);
                if (all[0] == 0) {
                    h.coin += h.took - all[3];
                    running.add(print);
                }
                h.coin -= 9L * Math.max(0, all[4] - h.band);
            }
            h.coin -= 3L * h.band + (set < 0 ? 0 : sets.get(set).hire);
        }
        for (int print : running) {
            prints.get(print).wear++;
        }
        for (Going g : goings) {
            Crowd goers = crowds.get(g.crowd);
            int print = printIn(g.hall);
            int picture = prints.get(print).picture;
            boolean liked = pictures.get(picture).taste == goers.taste && off(print, now) < 0;
            for (Crowd c : crowds) {
                if (c.tongue == goers.tongue) {
                    c.heard[picture] += liked ? 1 : -1;
                    c.heard[picture] = c.heard[picture] > 3 ? 3 : c.heard[picture] < -3 ? -3 : c.heard[picture];
                }
            }
        }
        now++;
    }

    int weeks(int n) {
        if (n < 1 || n > 20 || now + n > 199) {
            return -1;
        }
        for (int i = 0; i < n; i++) {
            week();
        }
        return now;
    }

    long of(int hall, int what) {
        if (!in(hall, 0, halls.size() - 1) || !in(what, 0, 5)) {
            return -1;
        }
        Hall h = halls.get(hall);
        return new long[] {h.coin, h.last, h.took, setIn(hall), printIn(hall), h.all}[what];
    }

    int at(int print, int what) {
        if (!in(print, 0, prints.size() - 1) || !in(what, 0, 2)) {
            return -1;
        }
        Print p = prints.get(print);
        return new int[] {p.picture, p.wear, p.hall}[what];
    }

    int version(int n) {
        if (!in(n, 1, 20) || nights.size() == 9) {
            return -1;
        }
        nights.add(n);
        return nights.size() - 1;
    }

    boolean change(int a, int b, int n) {
        if (!in(a, 0, nights.size() - 1) || !in(b, 0, nights.size() - 1) || a == b || !in(n, 0, 9)) {
            return false;
        }
        changes[a][b] = n;
        return true;
    }

    private int[] bestOrder;
    private long bestCost;

    /** Tries all orders, by their numbers. */
    private void orders(List<Integer> left, int[] order, int depth, boolean halls) {
        if (left.isEmpty()) {
            long cost = halls ? lossOf(order) : nightsOf(order);
            if (bestOrder == null || cost < bestCost) {
                bestOrder = order.clone();
                bestCost = cost;
            }
            return;
        }
        for (int i = 0; i < left.size(); i++) {
            List<Integer> rest = new ArrayList<>(left);
            order[depth] = rest.remove(i);
            orders(rest, order, depth + 1, halls);
        }
    }

    private long nightsOf(int[] order) {
        long all = 0;
        for (int i = 0; i < order.length; i++) {
            all += nights.get(order[i]) + (i > 0 ? changes[order[i - 1]][order[i]] : 0);
        }
        return all;
    }

    private long lossOf(int[] order) {
        long loss = 0;
        int town = 0;
        int week = 0;
        for (int i : order) {
            Hall h = halls.get(i);
            week += Math.abs(h.town - town) + h.weeks;
            town = h.town;
            loss += (long) h.loss * week;
        }
        return loss;
    }

    private int ordered(int set, int what, int most, boolean halls) {
        if (set < 1 || set >= 1 << most || Integer.bitCount(set) > 9 || !in(what, 0, Integer.bitCount(set))) {
            return -1;
        }
        List<Integer> members = new ArrayList<>();
        for (int i = 0; i < most; i++) {
            if ((set & 1 << i) != 0) {
                members.add(i);
            }
        }
        bestOrder = null;
        orders(members, new int[members.size()], 0, halls);
        return what == 0 ? (int) bestCost : bestOrder[what - 1];
    }

    int stage(int set, int what) {
        return ordered(set, what, nights.size(), false);
    }

    int person(int tongues, int voice) {
        if (!in(tongues, 1, 31) || !in(voice, 0, 9) || persons.size() == 14) {
            return -1;
        }
        persons.add(new int[] {tongues, voice});
        return persons.size() - 1;
    }

    int faces(int tongues, int voice, int what) {
        if (!in(tongues, 1, 31) || !in(voice, 0, 9) || !in(what, 0, 2)) {
            return -1;
        }
        int[] many = new int[15];
        int[] least = new int[15];
        for (int set = (1 << persons.size()) - 1; set > 0; set--) {
            int all = 0;
            boolean able = true;
            for (int i = 0; i < persons.size(); i++) {
                if ((set & 1 << i) != 0) {
                    all |= persons.get(i)[0];
                    able &= persons.get(i)[1] >= voice;
                }
            }
            if (able && (all & tongues) == tongues) {
                many[Integer.bitCount(set)]++;
                least[Integer.bitCount(set)] = set;
            }
        }
        for (int size = 1; size <= 14; size++) {
            if (many[size] > 0) {
                return what == 0 ? size : what == 1 ? least[size] : many[size];
            }
        }
        return -1;
    }

    boolean needs(int hall, int weeks, int loss) {
        if (!in(hall, 0, halls.size() - 1) || !in(weeks, 1, 9) || !in(loss, 0, 999)) {
            return false;
        }
        halls.get(hall).weeks = weeks;
        halls.get(hall).loss = loss;
        return true;
    }

    int wire(int set, int what) {
        return ordered(set, what, halls.size(), true);
    }

    boolean owe(int a, int b, int v) {
        if (!in(a, 0, 19) || !in(b, 0, 19) || a == b || !in(v, 0, 99999)) {
            return false;
        }
        owes[a][b] = v;
        return true;
    }

    boolean purse(int party, int v) {
        if (!in(party, 16, 19) || !in(v, 0, 99999)) {
            return false;
        }
        purses[party] = v;
        return true;
    }

    private long[] comes(long[] pays, long[] all) {
        long[] comes = new long[20];
        for (int b = 0; b < 20; b++) {
            for (int a = 0; a < 20; a++) {
                if (all[a] > 0) {
                    comes[b] += Math.floorDiv(owes[a][b] * pays[a], all[a]);
                }
            }
        }
        return comes;
    }

    long clear(int fall, int party, int what) {
        if (!in(fall, 0, 100) || !in(party, 0, 19) || !in(what, 0, 3)) {
            return -1;
        }
        long[] all = new long[20];
        for (int a = 0; a < 20; a++) {
            for (int b = 0; b < 20; b++) {
                all[a] += owes[a][b];
            }
        }
        long[] pays = all.clone();
        int rounds = 0;
        while (true) {
            long[] comes = comes(pays, all);
            long[] next = new long[20];
            for (int a = 0; a < 20; a++) {
                long purse = a >= 16 ? purses[a] : a < halls.size() ? Math.max(0, halls.get(a).coin) : 0;
                next[a] = Math.min(all[a], Math.floorDiv((100 - fall) * purse, 100L) + comes[a]);
            }
            rounds++;
            boolean same = Arrays.equals(next, pays);
            pays = next;
            if (same || rounds == 300) {
                break;
            }
        }
        return switch (what) {
            case 0 -> pays[party];
            case 1 -> comes(pays, all)[party];
            case 2 -> pays[party] < all[party] ? 1 : 0;
            default -> rounds;
        };
    }

    int clause(int a, int b, int c) {
        if (!in(a, -99, 99) || !in(b, -99, 99) || !in(c, -99, 99) || clauses.size() == 9) {
            return -1;
        }
        clauses.add(new int[] {a, b, c});
        return clauses.size() - 1;
    }

    boolean stand(int firm, int v) {
        if (!in(firm, 0, 2) || !in(v, -999, 999)) {
            return false;
        }
        stands[firm] = v;
        return true;
    }

    private int worthTo(int firm, int set) {
        int all = 0;
        for (int i = 0; i < clauses.size(); i++) {
            all += (set >> i & 1) * clauses.get(i)[firm];
        }
        return all;
    }

    private boolean signs(int firm, int set) {
        return worthTo(firm, set) >= stands[firm];
    }

    int pool(int what) {
        int pool = -1;
        int worth = 0;
        for (int set = 0; set < 1 << clauses.size(); set++) {
            int all = worthTo(0, set) + worthTo(1, set) + worthTo(2, set);
            if (signs(0, set) && signs(1, set) && signs(2, set) && (pool < 0 || all > worth)) {
                pool = set;
                worth = all;
            }
        }
        int out = -1;
        for (int firm = 0; firm < 3 && pool < 0 && out < 0; firm++) {
            for (int set = 0; set < 1 << clauses.size(); set++) {
                if (signs((firm + 1) % 3, set) && signs((firm + 2) % 3, set)) {
                    out = firm;
                }
            }
        }
        if (what >= 10 && what <= 12) {
            return pool < 0 ? 0 : worthTo(what - 10, pool);
        }
        return what == 0 ? pool : what == 1 ? worth : what == 2 ? (pool >= 0 ? -1 : out < 0 ? 3 : out) : -1;
    }

    long look(int what) {
        return switch (what) {
            case 0 -> now;
            case 1 -> pictures.size();
            case 2 -> prints.size();
            case 3 -> events.size();
            case 4 -> halls.size();
            case 5 -> sets.size();
            case 6 -> crowds.size();
            case 7 -> halls.stream().mapToLong(h -> h.all).sum();
            case 8 -> halls.stream().mapToLong(h -> h.band).sum();
            case 9 -> prints.stream().filter(p -> p.wear == 12).count();
            case 10 -> rules.stream().mapToLong(List::size).sum();
            default -> -1;
        };
    }
}
