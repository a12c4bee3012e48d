import java.util.ArrayList;
import java.util.List;
import java.util.Map;
import java.util.TreeMap;

/** Texts at the edges of what can stand, spoiled by a token, each fault held against the Model's. */
public final class RandomTextsTest {
    private static final int TEXTS = Integer.getInteger("texts", 20000);
    private static final String[] KEYWORDS = Model.RESERVED.stream().sorted()
            .toArray(String[]::new);
    private static final String[] ODD = {";", "<", ">", "=", "0", "1", "9", "10", "16", "17", "23",
        "24", "25", "99", "100", "600", "601", "1439", "1440", "9999", "12345", "00001", "A", "-",
        "\t", "\u00e9", "abcdefgh", "abcdefghi", "zz", "p0", "ann", "town"};
    private static final Map<String, Integer> SEEN = new TreeMap<>();

    private final Draws draws;
    private final List<String> tokens = new ArrayList<>();
    private final List<String> placeNames = new ArrayList<>();
    private final List<String> peopleNames = new ArrayList<>();
    private final List<String[]> roads = new ArrayList<>();

    private RandomTextsTest(int seed) {
        draws = new Draws(seed + 5000000);
    }

    public static void main(String[] args) {
        int wrong = 0;
        for (int i = 0; i < TEXTS && wrong < 5; i++) {
            wrong += new RandomTextsTest(i).play();
        }
        System.out.println("random texts: " + SEEN);
        for (int kind = 0; kind <= 7; kind++) {
            if (!SEEN.containsKey("land " + kind) && kind < 7 || !SEEN.containsKey("days " + kind)) {
                System.out.println("no text with the fault " + kind);
                wrong++;
            }
        }
        if (wrong != 0) {
            System.exit(1);
        }
    }

    private int play() {
        NoonGuides x = new NoonGuides();
        Model model = new Model();
        land();
        String good = text();
        int wrong = compare(x, model, "land", good);
        if (draws.chance(50)) {
            spoil();
            return wrong + compare(x, model, "land", text());
        }
        for (int i = 0; i < 3; i++) {
            tokens.clear();
            steps(0, draws.from(0, 16));
            if (draws.chance(70)) {
                spoil();
            }
            wrong += compare(x, model, "days", text());
        }
        return wrong;
    }

    private static int compare(NoonGuides x, Model model, String name, String text) {
        if (text.length() > (name.equals("days") ? 300 : 900)) {
            return 0;
        }
        for (long[] five : Calls.feeds(text)) {
            model.call("feed", five);
            Calls.on(x, "feed", five);
        }
        long want = model.call(name, text.length());
        long got = Calls.on(x, name, text.length());
        SEEN.merge(name + " " + model.faultKind, 1, Integer::sum);
        if (got == want && x.status() == model.status && x.fault(0) == model.faultKind
                && x.fault(1) == model.faultPlace) {
            return 0;
        }
        System.out.println(name + " of \"" + text + "\": " + got + ", fault " + x.fault(0) + " at "
                + x.fault(1) + ", due " + want + ", fault " + model.faultKind + " at "
                + model.faultPlace);
        return 1;
    }

    private String text() {
        StringBuilder s = new StringBuilder();
        for (String token : tokens) {
            boolean joins = s.length() > 0 && Character.isLetterOrDigit(s.charAt(s.length() - 1))
                    && Character.isLetterOrDigit(token.charAt(0));
            int blanks = draws.chance(90) ? joins ? 1 : 0 : draws.by(3);
            for (int i = 0; i < blanks; i++) {
                s.append(draws.chance(85) ? ' ' : '\n');
            }
            s.append(token);
        }
        return s.toString();
    }

    private void add(Object... some) {
        for (Object token : some) {
            tokens.add(String.valueOf(token));
        }
    }

    private void land() {
        int parts = draws.from(0, 30);
        for (int i = 0; i < parts; i++) {
            part();
        }
    }

    private void part() {
        switch (draws.by(14)) {
            case 0: setting(); break;
            case 1: case 2: case 3: case 4:
                String place = "p" + (char) ('a' + placeNames.size());
                add("place", place, ";");
                placeNames.add(place);
                break;
            case 5: case 6: case 7: road(); break;
            case 8: case 9: case 10: case 11: person(); break;
            default:
                if (!roads.isEmpty() && !peopleNames.isEmpty()) {
                    String[] ends = roads.get(draws.by(roads.size()));
                    int first = draws.by(2);
                    add("knows", oneOf(peopleNames), ends[first], ends[1 - first], ";");
                }
                break;
        }
    }

    private void setting() {
        switch (draws.by(5)) {
            case 0:
                int from = draws.from(0, 24);
                add("glare", from, "to", draws.chance(90) ? draws.from(from, 25) : 0, ";");
                break;
            case 1: add("clock", draws.chance(90) ? draws.from(0, 1439) : 1440, ";"); break;
            case 2: add("rope", draws.from(draws.chance(5) ? 0 : 1, 9), ";"); break;
            case 3: add("habit", draws.from(1, draws.chance(5) ? 10 : 9), ";"); break;
            default: add("odds", draws.from(0, draws.chance(5) ? 17 : 16), ";"); break;
        }
    }

    private void road() {
        if (placeNames.size() < 2) {
            return;
        }
        String a = oneOf(placeNames);
        String b = oneOf(placeNames);
        boolean told = a.equals(b);
        for (String[] ends : roads) {
            told |= ends[0].equals(a) && ends[1].equals(b) || ends[0].equals(b) && ends[1].equals(a);
        }
        if (told && draws.chance(97)) {
            return;
        }
        roads.add(new String[] {a, b});
        add("road", a, b, "minutes", draws.from(draws.chance(3) ? 0 : 1, draws.chance(3) ? 100 : 99));
        if (draws.chance(30)) {
            add("smells");
        }
        add(";");
    }

    private void person() {
        if (placeNames.isEmpty()) {
            return;
        }
        String name = "x" + (char) ('a' + peopleNames.size());
        boolean sighted = draws.chance(50);
        add(sighted ? "sighted" : "blind", name, "at", oneOf(placeNames));
        if (draws.chance(20) && (sighted || draws.chance(10))) {
            add("glasses");
        }
        add(";");
        peopleNames.add(name);
    }

    private String oneOf(List<String> names) {
        return names.isEmpty() ? "zz" : names.get(draws.by(names.size()));
    }

    private void steps(int depth, int many) {
        for (int i = 0; i < many; i++) {
            step(depth);
        }
        if (depth == 0 && draws.chance(15)) {
            for (int i = 0; i < 20; i++) {
                add(draws.chance(50) ? "any" : "stop", ";");
            }
        }
    }

    private void step(int depth) {
        switch (draws.by(12)) {
            case 0: add("wait", draws.from(draws.chance(5) ? 0 : 1, draws.chance(5) ? 601 : 600), ";");
                break;
            case 1: case 2: add("go", oneOf(peopleNames), oneOf(placeNames), ";"); break;
            case 3: case 4:
                add("lead", oneOf(peopleNames), oneOf(peopleNames), oneOf(placeNames), ";");
                break;
            case 5: add("any", ";"); break;
            case 6: add("cloud", ";"); break;
            case 7: add("clear", ";"); break;
            case 8: add("stop", ";"); break;
            case 9:
                add("loop", draws.from(draws.chance(5) ? 0 : 1, draws.chance(5) ? 100 : 99), ";");
                inside(depth);
                break;
            default:
                test();
                inside(depth);
                break;
        }
    }

    private void test() {
        switch (draws.by(3)) {
            case 0: add("when", "at", oneOf(peopleNames), oneOf(placeNames), ";"); break;
            case 1: add("when", "glare", ";"); break;
            default:
                add("when", "lost", oneOf(peopleNames), "<>=".charAt(draws.by(3)),
                        draws.from(0, 9999), ";");
                break;
        }
    }

    private void inside(int depth) {
        if (depth < 4) {
            steps(depth + 1, draws.by(4));
        }
        if (draws.chance(98)) {
            add("end", ";");
        }
    }

    private void spoil() {
        int at = draws.by(tokens.size() + 1);
        String word = draws.chance(30) ? draws.of(KEYWORDS) : draws.chance(40) ? draws.of(ODD)
                : draws.chance(50) ? oneOf(placeNames) : oneOf(peopleNames);
        if (at == tokens.size() || draws.chance(30)) {
            tokens.add(at, word);
        } else if (draws.chance(25)) {
            tokens.remove(at);
        } else if (draws.chance(15)) {
            tokens.subList(at, tokens.size()).clear();
        } else {
            tokens.set(at, word);
        }
    }
}
