import java.util.ArrayList;
import java.util.List;

/** Runs of random calls on random lands, each answer held against the Model's. */
public final class RandomRunsTest {
    private static final int RUNS = Integer.getInteger("runs", 300);
    private static final int FIRST = Integer.getInteger("first", 0);
    private static final String[] NAMES = {"a", "b", "c", "d", "e", "f", "g", "h"};
    private static final String[] PEOPLE = {"ann", "bob", "cid", "dot", "eva", "fay", "gus", "hal"};
    private static final int[] ODD = {-1, -2, 9, 13, 64, 255, 1000, 100000, Integer.MIN_VALUE,
        Integer.MAX_VALUE};
    private static final String[] WORDS = {"glare", "to", "clock", "rope", "habit", "odds", "place",
        "road", "minutes", "smells", "sighted", "at", "glasses", "blind", "knows", "wait", "go",
        "lead", "any", "cloud", "clear", "when", "lost", "loop", "end", "stop", "a", "b", "ann",
        "bob", "abcdefgh", "abcdefghi", ";", "<", ">", "=", "0", "1", "7", "24", "99", "600",
        "9999", "12345", "-", "A", "\t", "\u00e9"};

    private final Draws draws;
    private final NoonGuides x = new NoonGuides();
    private final Model model = new Model();
    private final List<String> told = new ArrayList<>();
    private int calls;
    private int places;
    private int roads;
    private int people;
    private boolean isWrong;

    private RandomRunsTest(int seed) {
        draws = new Draws(seed);
    }

    public static void main(String[] args) {
        int wrong = 0;
        for (int run = FIRST; run < FIRST + RUNS && wrong < 3; run++) {
            RandomRunsTest test = new RandomRunsTest(run);
            test.play();
            if (test.isWrong) {
                wrong++;
                int from = Math.max(0, test.told.size() - 25);
                System.out.println("run " + run + ":");
                for (String line : test.told.subList(from, test.told.size())) {
                    System.out.println("  " + line);
                }
            }
        }
        System.out.println("random runs: " + (wrong == 0 ? "as the model" : wrong + " wrong"));
        if (wrong != 0) {
            System.exit(1);
        }
    }

    private void call(String name, long... a) {
        if (isWrong || calls >= 512) {
            return;
        }
        long want = model.call(name, a);
        long got;
        try {
            got = Calls.on(x, name, a);
        } catch (RuntimeException e) {
            told.add(name + " threw " + e);
            isWrong = true;
            return;
        }
        calls++;
        StringBuilder line = new StringBuilder(name);
        for (long v : a) {
            line.append(' ').append(v);
        }
        line.append(": ").append(got).append(", status ").append(x.status());
        if (got != want || x.status() != model.status) {
            line.append(" WRONG, due ").append(want).append(", status ").append(model.status);
            isWrong = true;
        }
        told.add(line.toString());
    }

    private void text(String name, String text) {
        if (isWrong || calls + text.length() / 20 + 5 > 512) {
            return;
        }
        told.add("TEXT " + text);
        for (long[] five : Calls.feeds(text)) {
            call("feed", five);
        }
        call(name, text.length());
        call("fault", 0);
        call("fault", 1);
        places = model.w.places.size();
        roads = model.w.roads.size();
        people = model.w.people.size();
    }

    private String landText() {
        StringBuilder s = new StringBuilder();
        if (draws.chance(60)) {
            int from = draws.from(0, 23);
            s.append("glare ").append(from).append(" to ").append(draws.from(from + 1, 24))
                    .append(";");
        }
        if (draws.chance(70)) {
            s.append("clock ").append(draws.from(0, 1439)).append(";\n");
        }
        if (draws.chance(50)) {
            s.append("rope ").append(draws.from(1, 9)).append(";");
        }
        if (draws.chance(80)) {
            s.append("habit ").append(draws.from(1, draws.chance(80) ? 2 : 9)).append(";");
        }
        if (draws.chance(50)) {
            s.append("odds ").append(draws.from(0, 16)).append(" ;");
        }
        int p = draws.from(draws.chance(10) ? 0 : 2, 8);
        for (int i = 0; i < p; i++) {
            s.append("place ").append(NAMES[i]).append(";");
        }
        appendRoads(s, p);
        appendPeople(s, p);
        return s.toString();
    }

    private void appendRoads(StringBuilder s, int p) {
        List<String> made = new ArrayList<>();
        int most = draws.chance(70) ? 12 : 60;
        int tries = draws.from(0, 16);
        for (int i = 0; i < tries && made.size() < 12 && p > 1; i++) {
            int a = draws.by(p);
            int b = draws.by(p);
            String key = Math.min(a, b) + " " + Math.max(a, b);
            if (a != b && !made.contains(key)) {
                made.add(key);
                s.append("road ").append(NAMES[a]).append(' ').append(NAMES[b]).append(" minutes ")
                        .append(draws.from(1, most)).append(draws.chance(30) ? " smells;" : ";");
                if (draws.chance(5)) {
                    s.append('\n');
                }
            }
        }
    }

    private void appendPeople(StringBuilder s, int p) {
        int n = p == 0 ? 0 : draws.from(draws.chance(10) ? 0 : 2, 8);
        for (int i = 0; i < n; i++) {
            boolean sighted = draws.chance(50);
            s.append(sighted ? "sighted " : "blind ").append(PEOPLE[i]).append(" at ")
                    .append(NAMES[draws.chance(50) ? 0 : draws.by(p)])
                    .append(sighted && draws.chance(25) ? " glasses;" : ";");
        }
        for (int i = 0; i < 6 && n > 0; i++) {
            int at = s.indexOf("road ", draws.by(s.length()));
            if (at >= 0) {
                s.append("knows ").append(PEOPLE[draws.by(n)]).append(' ')
                        .append(s.charAt(at + 5)).append(' ').append(s.charAt(at + 7)).append(";");
            }
        }
        if (s.length() > 900) {
            s.setLength(0);
        }
    }

    private String daysText() {
        StringBuilder s = new StringBuilder();
        int steps = draws.from(0, 25);
        int open = 0;
        for (int i = 0; i < steps; i++) {
            if (open > 0 && draws.chance(25)) {
                s.append("end;");
                open--;
            }
            open += appendStep(s, open);
        }
        while (open > 0) {
            s.append("end;");
            open--;
        }
        return s.toString();
    }

    private int appendStep(StringBuilder s, int open) {
        String who = PEOPLE[draws.by(Math.max(1, people))];
        String where = NAMES[draws.by(Math.max(1, places))];
        int kind = draws.by(open < 3 ? 12 : 8);
        switch (kind) {
            case 0: case 1:
                s.append("wait ").append(draws.from(1, draws.chance(80) ? 60 : 600)).append(';');
                return 0;
            case 2: case 3:
                s.append(people > 0 ? "go " + who + " " + where + ";" : "any;");
                return 0;
            case 4:
                String other = PEOPLE[draws.by(Math.max(1, people))];
                s.append(people > 1 && !who.equals(other)
                        ? "lead " + who + " " + other + " " + where + ";" : "any;");
                return 0;
            case 5: case 6:
                s.append("any;");
                return 0;
            case 7:
                s.append(draws.chance(48) ? "cloud;" : draws.chance(96) ? "clear;" : "stop;");
                return 0;
            case 8:
                s.append(people > 0 ? "when at " + who + " " + where + ";" : "when glare;");
                return 1;
            case 9:
                s.append("when glare;");
                return 1;
            case 10:
                s.append(people > 0 ? "when lost " + who + " " + "<>=".charAt(draws.by(3)) + " "
                        + draws.from(0, draws.chance(50) ? 3 : 200) + ";" : "when glare;");
                return 1;
            default:
                s.append("loop ").append(draws.from(1, draws.chance(60) ? 4 : 99)).append(';');
                return 1;
        }
    }

    /** A word of a text is taken out, put in or put in another's place. */
    private String spoiled(String text) {
        StringBuilder s = new StringBuilder(text);
        int changes = draws.from(1, 2);
        for (int i = 0; i < changes; i++) {
            int from = s.length() == 0 ? 0 : draws.by(s.length());
            int till = from;
            while (till < s.length() && s.charAt(till) != ' ' && s.charAt(till) != ';') {
                till++;
            }
            if (draws.chance(30)) {
                till = from;
            }
            String word = draws.chance(20) ? "" : draws.of(WORDS);
            s.replace(from, till, draws.chance(50) ? " " + word + " " : word);
        }
        if (draws.chance(15)) {
            s.setLength(draws.by(s.length() + 1));
        }
        return s.toString();
    }

    private String randomWords() {
        StringBuilder s = new StringBuilder();
        int many = draws.from(0, 12);
        for (int i = 0; i < many; i++) {
            s.append(draws.of(WORDS)).append(draws.chance(70) ? " " : "");
        }
        return s.toString();
    }

    private long index(int many) {
        if (draws.chance(3)) {
            return ODD[draws.by(ODD.length)];
        }
        return draws.chance(3) || many == 0 ? many : draws.by(many);
    }

    private long number(int least, int most) {
        if (draws.chance(4)) {
            return ODD[draws.by(ODD.length)];
        }
        return draws.chance(4) ? (draws.chance(50) ? least - 1 : most + 1) : draws.from(least, most);
    }

    private int neighbour(long person) {
        if (person < 0 || person >= people || draws.chance(15)) {
            return (int) index(places);
        }
        int at = model.w.people.get((int) person).at;
        for (int i = 0; i < 10 && at >= 0 && roads > 0; i++) {
            Model.Road r = model.w.roads.get(draws.by(roads));
            if (r.a == at || r.b == at) {
                return r.a == at ? r.b : r.a;
            }
        }
        return (int) index(places);
    }

    private long team(long person) {
        if (person < 0 || person >= people || draws.chance(10)) {
            return number(0, 300);
        }
        int at = model.w.people.get((int) person).at;
        long set = 0;
        for (int p = 0; p < people; p++) {
            if (p != person && model.w.people.get(p).at == at && draws.chance(60)) {
                set |= 1L << p;
            }
        }
        return set;
    }

    private void play() {
        if (draws.chance(90)) {
            text("land", landText());
        }
        // some runs come near the last minute
        for (int i = draws.chance(8) ? 0 : 98; i < 98; i++) {
            call("passes", 999);
        }
        while (calls < 500 && !isWrong) {
            step();
        }
        for (int i = 0; i < 12 && !isWrong; i++) {
            call("person", i % 8, i / 8);
        }
    }

    private void step() {
        switch (draws.by(17)) {
            case 0: act(); break;
            case 1: case 2: case 3: move(); break;
            case 4: case 5: case 6: tellLand(); break;
            case 7: tellPeople(); break;
            case 8: case 9: tellCan(); break;
            case 10: tellSoonest(); break;
            case 11: tellWays(); break;
            case 12: tellPairs(); break;
            case 13: tellOdds(); break;
            case 14: playTrays(); break;
            case 15: playDays(); break;
            default: playTexts(); break;
        }
    }

    private void move() {
        long p = index(people);
        switch (draws.by(6)) {
            case 0: case 1: call("go", p, neighbour(p)); break;
            case 2: case 3: call("lead", p, team(p), neighbour(p)); break;
            case 4: call("passes", number(1, draws.chance(70) ? 30 : 999)); break;
            default: call(draws.chance(80) ? "person" : "turn", p, index(6)); break;
        }
    }

    private void act() {
        long p = index(people);
        switch (draws.by(8)) {
            case 0: call("turn", p); break;
            case 1: call("cloud", draws.by(2)); break;
            case 2: call("plant", index(roads), draws.by(2)); break;
            case 3: call("glasses", p, draws.by(2)); break;
            case 4: call("cure", p, draws.by(2)); break;
            case 5: call("settle", p, index(people)); break;
            case 6: call("rule", number(0, 23), number(1, 24)); break;
            default:
                for (int i = 0; i < 3; i++) {
                    call("passes", 999);
                }
                break;
        }
    }

    private void tellLand() {
        switch (draws.by(6)) {
            case 0: call("many", number(0, 14)); break;
            case 1: call("road", index(roads), number(0, 3)); break;
            case 2: call("roadOf", index(places), index(places)); break;
            case 3: call("person", index(people), number(0, 5)); break;
            case 4: call("gone", index(people), index(roads)); break;
            default: call("fault", number(0, 1)); break;
        }
    }

    private void tellPeople() {
        switch (draws.by(3)) {
            case 0: call("owes", index(people), index(people)); break;
            case 1: call("net", index(people)); break;
            default: call("dearest", index(people)); break;
        }
    }

    private void tellCan() {
        switch (draws.by(6)) {
            case 0: call("glareAt", number(0, 99999)); break;
            case 1: call("can", index(people), index(roads)); break;
            case 2: call("guides", index(places), index(places)); break;
            case 3: call("stuck"); break;
            case 4: call("reach", index(people)); break;
            default: call("nextGlare", number(0, 1)); break;
        }
    }

    private void tellSoonest() {
        switch (draws.by(5)) {
            case 0: call("soonest", index(people), index(places)); break;
            case 1: call("soonestFirst", index(people), index(places)); break;
            case 2: call("soonestTwo", index(people), index(people), index(places)); break;
            case 3: call("meet", index(people), index(people)); break;
            default: call("meetIn", index(people), index(people)); break;
        }
    }

    private void tellWays() {
        switch (draws.by(3)) {
            case 0: call("plants", index(people), index(places)); break;
            case 1: call("plantSet", index(people), index(places)); break;
            default:
                call("ways", index(people), index(places), index(places), number(0, 10));
                break;
        }
    }

    private void tellPairs() {
        switch (draws.by(3)) {
            case 0: call("pair", index(people)); break;
            case 1: call("pairs"); break;
            default: call("pairsOwe"); break;
        }
    }

    private void tellOdds() {
        switch (draws.by(5)) {
            case 0:
                call("clouds", number(0, 12), number(0, 12));
                call("top");
                call("bottom");
                break;
            case 1: call("lostIn", number(0, 999)); break;
            case 2: call("lostBy", number(0, 999), number(0, 23), number(1, 24)); break;
            case 3: call("bestFrom", number(0, 999)); break;
            default: call("arrives", index(people)); break;
        }
    }

    private void playTrays() {
        long t = index(4);
        switch (draws.by(5)) {
            case 0: call("tray", t, number(0, 3), number(0, draws.chance(50) ? 12 : 60)); break;
            case 1:
                call("write", t, number(0, 12), (long) number(-200, 70000) * (draws.chance(50) ? 1
                        : 123456789012L));
                break;
            case 2: call("read", t, number(0, 12)); break;
            case 3:
                call("pour", t, number(0, 6), index(4), number(0, 6), number(0, 6));
                break;
            default: call("copyPlaces", t); break;
        }
    }

    private void playDays() {
        switch (draws.by(6)) {
            case 0: case 1: call("live", number(0, 9999)); break;
            case 2: call("lived", number(0, 4)); break;
            case 3:
                call("mean", number(0, 9999), number(1, 20));
                call("top");
                call("bottom");
                break;
            case 4: call("mark"); break;
            default:
                call("back");
                places = model.w.places.size();
                roads = model.w.roads.size();
                people = model.w.people.size();
                break;
        }
    }

    private void playTexts() {
        if (model.w.days == null && draws.chance(60)) {
            text("days", daysText());
            return;
        }
        switch (draws.by(10)) {
            case 0: text("land", landText()); break;
            case 1: text("land", spoiled(landText())); break;
            case 2: text("land", randomWords()); break;
            case 3: text("days", randomWords()); break;
            case 4: call(draws.chance(50) ? "land" : "days", number(0, 900)); break;
            case 5: text("days", spoiled(daysText())); break;
            case 6: text("days", daysText()); break;
            default: break;
        }
        places = model.w.places.size();
        roads = model.w.roads.size();
        people = model.w.people.size();
    }
}
