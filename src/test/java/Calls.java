import java.util.LinkedHashMap;
import java.util.Map;
import java.util.Set;

/** Calls of the face by name, and the texts that come to the tape in fives of ints. */
final class Calls {
    static final Set<String> IS_BOOLEAN = Set.of("tray", "write", "pour", "turn", "cloud", "plant",
            "glasses", "cure", "rule", "clouds", "mean");

    interface Call {
        long on(NoonGuides x, long[] a);
    }

    private static final Map<String, Call> ALL = new LinkedHashMap<>();
    private static final Map<String, Integer> ARGUMENTS = new LinkedHashMap<>();

    private Calls() {
    }

    private static void add(String name, int arguments, Call call) {
        ALL.put(name, call);
        ARGUMENTS.put(name, arguments);
    }

    private static long one(boolean is) {
        return is ? 1 : 0;
    }

    static {
        add("status", 0, (x, a) -> x.status());
        add("top", 0, (x, a) -> x.top());
        add("bottom", 0, (x, a) -> x.bottom());
        add("tray", 3, (x, a) -> one(x.tray((int) a[0], (int) a[1], (int) a[2])));
        add("write", 3, (x, a) -> one(x.write((int) a[0], (int) a[1], a[2])));
        add("read", 2, (x, a) -> x.read((int) a[0], (int) a[1]));
        add("pour", 5, (x, a) -> one(x.pour((int) a[0], (int) a[1], (int) a[2], (int) a[3],
                (int) a[4])));
        add("feed", 5, (x, a) -> x.feed((int) a[0], (int) a[1], (int) a[2], (int) a[3],
                (int) a[4]));
        add("land", 1, (x, a) -> x.land((int) a[0]));
        add("days", 1, (x, a) -> x.days((int) a[0]));
        add("fault", 1, (x, a) -> x.fault((int) a[0]));
        add("many", 1, (x, a) -> x.many((int) a[0]));
        add("road", 2, (x, a) -> x.road((int) a[0], (int) a[1]));
        add("roadOf", 2, (x, a) -> x.roadOf((int) a[0], (int) a[1]));
        add("person", 2, (x, a) -> x.person((int) a[0], (int) a[1]));
        add("gone", 2, (x, a) -> x.gone((int) a[0], (int) a[1]));
        add("owes", 2, (x, a) -> x.owes((int) a[0], (int) a[1]));
        add("net", 1, (x, a) -> x.net((int) a[0]));
        add("copyPlaces", 1, (x, a) -> x.copyPlaces((int) a[0]));
        add("passes", 1, (x, a) -> x.passes((int) a[0]));
        add("go", 2, (x, a) -> x.go((int) a[0], (int) a[1]));
        add("lead", 3, (x, a) -> x.lead((int) a[0], (int) a[1], (int) a[2]));
        add("turn", 1, (x, a) -> one(x.turn((int) a[0])));
        add("cloud", 1, (x, a) -> one(x.cloud(a[0] == 1)));
        add("plant", 2, (x, a) -> one(x.plant((int) a[0], a[1] == 1)));
        add("glasses", 2, (x, a) -> one(x.glasses((int) a[0], a[1] == 1)));
        add("cure", 2, (x, a) -> one(x.cure((int) a[0], a[1] == 1)));
        add("settle", 2, (x, a) -> x.settle((int) a[0], (int) a[1]));
        add("rule", 2, (x, a) -> one(x.rule((int) a[0], (int) a[1])));
        add("glareAt", 1, (x, a) -> x.glareAt((int) a[0]));
        add("can", 2, (x, a) -> x.can((int) a[0], (int) a[1]));
        add("guides", 2, (x, a) -> x.guides((int) a[0], (int) a[1]));
        add("stuck", 0, (x, a) -> x.stuck());
        add("reach", 1, (x, a) -> x.reach((int) a[0]));
        add("nextGlare", 1, (x, a) -> x.nextGlare((int) a[0]));
        add("soonest", 2, (x, a) -> x.soonest((int) a[0], (int) a[1]));
        add("soonestFirst", 2, (x, a) -> x.soonestFirst((int) a[0], (int) a[1]));
        add("soonestTwo", 3, (x, a) -> x.soonestTwo((int) a[0], (int) a[1], (int) a[2]));
        add("meet", 2, (x, a) -> x.meet((int) a[0], (int) a[1]));
        add("meetIn", 2, (x, a) -> x.meetIn((int) a[0], (int) a[1]));
        add("plants", 2, (x, a) -> x.plants((int) a[0], (int) a[1]));
        add("plantSet", 2, (x, a) -> x.plantSet((int) a[0], (int) a[1]));
        add("ways", 4, (x, a) -> x.ways((int) a[0], (int) a[1], (int) a[2], (int) a[3]));
        add("pair", 1, (x, a) -> x.pair((int) a[0]));
        add("pairs", 0, (x, a) -> x.pairs());
        add("pairsOwe", 0, (x, a) -> x.pairsOwe());
        add("dearest", 1, (x, a) -> x.dearest((int) a[0]));
        add("clouds", 2, (x, a) -> one(x.clouds((int) a[0], (int) a[1])));
        add("lostIn", 1, (x, a) -> x.lostIn((int) a[0]));
        add("lostBy", 3, (x, a) -> x.lostBy((int) a[0], (int) a[1], (int) a[2]));
        add("bestFrom", 1, (x, a) -> x.bestFrom((int) a[0]));
        add("arrives", 1, (x, a) -> x.arrives((int) a[0]));
        add("live", 1, (x, a) -> x.live((int) a[0]));
        add("lived", 1, (x, a) -> x.lived((int) a[0]));
        add("mean", 2, (x, a) -> one(x.mean((int) a[0], (int) a[1])));
        add("mark", 0, (x, a) -> x.mark());
        add("back", 0, (x, a) -> x.back());
    }

    static Set<String> names() {
        return ALL.keySet();
    }

    static int arguments(String name) {
        return ARGUMENTS.get(name);
    }

    static long on(NoonGuides x, String name, long... a) {
        return ALL.get(name).on(x, a);
    }

    /** The arguments of the feeds that bring a text to the tape, blanks behind it. */
    static long[][] feeds(String text) {
        int many = (text.length() + 19) / 20;
        long[][] all = new long[many][5];
        for (int i = 0; i < many * 20; i++) {
            int c = i < text.length() ? text.charAt(i) & 255 : 32;
            all[i / 20][i % 20 / 4] |= (long) c << 24 - i % 4 * 8;
        }
        for (long[] five : all) {
            for (int i = 0; i < 5; i++) {
                five[i] = (int) five[i];
            }
        }
        return all;
    }
}
