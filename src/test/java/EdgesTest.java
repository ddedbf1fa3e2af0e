import java.util.ArrayList;
import java.util.Arrays;
import java.util.List;
import java.util.Map;

/** Every method with every choice of numbers at its ends and beyond, of a new, a furnished and a full object, against the Oracle. */
public final class EdgesTest {
    private static final String[] STATES = {"new", "furnished", "full"};

    private final int state;
    private final String name;
    private Caller x;
    private Caller o;

    private EdgesTest(int state, String name) {
        this.state = state;
        this.name = name;
        begin();
    }

    public static void main(String[] args) {
        Map<String, int[][]> edges = Edges.all();
        Check.due("methods", edges.size(), 35);
        for (int state = 0; state < STATES.length; state++) {
            for (Map.Entry<String, int[][]> e : edges.entrySet()) {
                new EdgesTest(state, e.getKey()).choices(e.getValue());
            }
        }
        Check.finish();
    }

    private void begin() {
        x = new Caller(new TalkingReels());
        o = new Caller(new Oracle());
        if (state == 1) {
            Scene.furnish(x);
            Scene.furnish(o);
        } else if (state == 2) {
            Scene.fill(x);
            Scene.fill(o);
        }
    }

    private void choices(int[][] numbers) {
        for (int[] choice : product(numbers)) {
            if (x.callsLeft() <= (state == 1 ? Scene.ANSWERS : Scene.FEW_ANSWERS)) {
                compare();
                begin();
            }
            Check.due(STATES[state] + ": " + name + Arrays.toString(choice), x.call(name, choice), o.call(name, choice));
        }
        compare();
    }

    /** What was done, too, must be the same. */
    private void compare() {
        String got = state == 1 ? Scene.answers(x) : Scene.fewAnswers(x);
        String want = state == 1 ? Scene.answers(o) : Scene.fewAnswers(o);
        Check.holds(STATES[state] + ": behind " + name + " all is as due", got.equals(want));
    }

    /** All choices of one number for each place, the least and the greatest int among them. */
    private static List<int[]> product(int[][] numbers) {
        List<int[]> all = new ArrayList<>(List.of(new int[0]));
        for (int[] place : numbers) {
            int[] more = Arrays.copyOf(place, place.length + 2);
            more[place.length] = Integer.MIN_VALUE;
            more[place.length + 1] = Integer.MAX_VALUE;
            List<int[]> longer = new ArrayList<>();
            for (int[] begun : all) {
                for (int v : more) {
                    int[] next = Arrays.copyOf(begun, begun.length + 1);
                    next[begun.length] = v;
                    longer.add(next);
                }
            }
            all = longer;
        }
        return all;
    }
}
