import java.util.Arrays;
import java.util.HashMap;
import java.util.Map;
import java.util.TreeMap;

/**
 * SOONEST by two, with what both learn on the way: what is learned never brings them sooner, so
 * NoonGuides need not look at it. Here all ways are gone, minute by minute, with all learned.
 */
public final class LearningTest {
    private static final int LANDS = 250;
    private static final int HORIZON = 200;
    private static final String NAMES = "abcd";

    private final Draws draws;
    private final NoonGuides x = new NoonGuides();
    private final Model model = new Model();

    private LearningTest(int seed) {
        draws = new Draws(seed + 7000000);
    }

    public static void main(String[] args) {
        for (int i = 0; i < LANDS; i++) {
            new LearningTest(i).play();
        }
        Check.end("LearningTest");
    }

    private String text() {
        StringBuilder s = new StringBuilder("glare 10 to " + draws.from(11, 13) + ";clock ");
        s.append(draws.from(560, 640)).append(";habit ").append(draws.from(1, 2)).append(";");
        for (int i = 0; i < 4; i++) {
            s.append("place ").append(NAMES.charAt(i)).append(";");
        }
        String[] ends = {"a b", "b c", "c d", "a c", "b d"};
        for (String two : ends) {
            if (draws.chance(75)) {
                s.append("road ").append(two).append(" minutes ").append(draws.from(1, 30))
                        .append(draws.chance(25) ? " smells;" : ";");
            }
        }
        s.append("blind x at a;").append(draws.chance(70) ? "sighted y at a;" : "blind y at a;");
        return s.toString();
    }

    private void play() {
        String text = text();
        for (long[] five : Calls.feeds(text)) {
            x.feed((int) five[0], (int) five[1], (int) five[2], (int) five[3], (int) five[4]);
            model.call("feed", five);
        }
        x.land(text.length());
        model.call("land", text.length());
        int[] best = explore();
        for (int goal = 0; goal < 4; goal++) {
            int got = x.soonestTwo(0, 1, goal);
            int want = best[goal];
            Check.same("soonestTwo to " + goal + " of " + text,
                    x.status() == 8 || got > HORIZON ? -1 : got, want);
        }
    }

    private static String key(Model.World w) {
        StringBuilder s = new StringBuilder().append(w.people.get(0).at);
        for (Model.One o : w.people) {
            for (int r = 0; r < w.roads.size(); r++) {
                s.append(' ').append(Math.min(w.habit, o.gone[r]));
            }
        }
        return s.toString();
    }

    private int[] explore() {
        int[] best = new int[4];
        Arrays.fill(best, -1);
        TreeMap<Integer, Map<String, Model.World>> at = new TreeMap<>();
        put(at, model.w.copy());
        while (!at.isEmpty()) {
            Map.Entry<Integer, Map<String, Model.World>> now = at.pollFirstEntry();
            for (Model.World w : now.getValue().values()) {
                int place = w.people.get(0).at;
                if (best[place] < 0) {
                    best[place] = now.getKey() - model.w.minute;
                }
                Model.World later = w.copy();
                later.tick();
                put(at, later);
                for (int to = 0; to < 4; to++) {
                    for (int leader = 0; leader < 2; leader++) {
                        leave(at, w.copy(), leader, to);
                    }
                }
            }
        }
        return best;
    }

    private void leave(TreeMap<Integer, Map<String, Model.World>> at, Model.World w, int leader,
            int to) {
        try {
            w.leave(leader, 1 << 1 - leader, to);
        } catch (Model.Refused r) {
            return;
        }
        while (w.people.get(0).at < 0 && w.minute - model.w.minute <= HORIZON) {
            w.tick();
        }
        if (w.people.get(0).at >= 0) {
            put(at, w);
        }
    }

    private void put(TreeMap<Integer, Map<String, Model.World>> at, Model.World w) {
        if (w.minute - model.w.minute <= HORIZON) {
            at.computeIfAbsent(w.minute, m -> new HashMap<>()).putIfAbsent(key(w), w);
        }
    }
}
