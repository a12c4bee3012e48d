import java.math.BigInteger;
import java.util.ArrayDeque;
import java.util.ArrayList;
import java.util.Arrays;
import java.util.Comparator;
import java.util.Deque;
import java.util.List;
import java.util.Set;

/**
 * The document once more, in the slowest and plainest way: minute by minute, set by set. The tests
 * of random runs hold NoonGuides against it. A call that is refused throws Refused.
 */
final class Model {
    static final class Refused extends RuntimeException {
        final int status;

        Refused(int status) {
            super(null, null, false, false);
            this.status = status;
        }
    }

    static final class Fault extends RuntimeException {
        final int kind;
        final int place;

        Fault(int kind, int place) {
            super(null, null, false, false);
            this.kind = kind;
            this.place = place;
        }
    }

    /** Thrown out of the steps when no more is done. */
    static final class Halt extends RuntimeException {
        Halt() {
            super(null, null, false, false);
        }
    }

    static final class Token {
        char kind; // w word, n number, s sign, x none, e end
        String text;
        int at;
    }

    static final class Step {
        String kind;
        int a;
        int b;
        int c;
        char sign;
        List<Step> body = new ArrayList<>();
    }

    static final class One {
        String name;
        boolean sighted;
        boolean glasses;
        int at;
        int origin = -1;
        int to = -1;
        int road = -1;
        int left;
        int leader = -1;
        int lost;
        int[] gone = new int[12];
        int[] owes = new int[8];

        One copy() {
            One o = new One();
            o.name = name;
            o.sighted = sighted;
            o.glasses = glasses;
            o.at = at;
            o.origin = origin;
            o.to = to;
            o.road = road;
            o.left = left;
            o.leader = leader;
            o.lost = lost;
            o.gone = gone.clone();
            o.owes = owes.clone();
            return o;
        }

        void stay(int place) {
            at = place;
            origin = -1;
            to = -1;
            road = -1;
            left = 0;
            leader = -1;
        }
    }

    static final class Road {
        int a;
        int b;
        int minutes;
        boolean smells;

        Road copy() {
            Road r = new Road();
            r.a = a;
            r.b = b;
            r.minutes = minutes;
            r.smells = smells;
            return r;
        }

        boolean joins(int p, int q) {
            return a == p && b == q || a == q && b == p;
        }
    }

    static final class World {
        List<String> places = new ArrayList<>();
        List<Road> roads = new ArrayList<>();
        List<One> people = new ArrayList<>();
        int from = 10;
        int till = 16;
        int minute = 480;
        int rope = 9;
        int habit = 3;
        int odds = 4;
        boolean cloudy;
        List<Step> days; // never changed once made
        int dayCount;

        World copy() {
            World w = new World();
            w.places.addAll(places);
            for (Road r : roads) {
                w.roads.add(r.copy());
            }
            for (One o : people) {
                w.people.add(o.copy());
            }
            w.from = from;
            w.till = till;
            w.minute = minute;
            w.rope = rope;
            w.habit = habit;
            w.odds = odds;
            w.cloudy = cloudy;
            w.days = days;
            w.dayCount = dayCount;
            return w;
        }

        boolean glareAt(int when) {
            int hour = when / 60 % 24;
            return !cloudy && hour >= from && hour < till;
        }

        boolean can(int p, int r, int when) {
            One o = people.get(p);
            if (o.sighted) {
                return o.glasses || !glareAt(when);
            }
            return roads.get(r).smells || o.gone[r] >= habit;
        }

        int roadOf(int p, int q) {
            for (int r = 0; r < roads.size(); r++) {
                if (p != q && roads.get(r).joins(p, q)) {
                    return r;
                }
            }
            return -1;
        }

        /** What leaving asks: 9 if it can't be. */
        int leave(int p, int set, int place) {
            One o = people.get(p);
            if (o.at < 0) {
                throw new Refused(9);
            }
            int r = roadOf(o.at, place);
            if (r < 0 || !can(p, r, minute)) {
                throw new Refused(9);
            }
            for (int q = 0; q < people.size(); q++) {
                if ((set >> q & 1) == 1 && people.get(q).at != o.at) {
                    throw new Refused(9);
                }
            }
            int origin = o.at;
            for (int q = 0; q < people.size(); q++) {
                if (q == p || (set >> q & 1) == 1) {
                    One w = people.get(q);
                    w.origin = origin;
                    w.at = -1;
                    w.to = place;
                    w.road = r;
                    w.left = roads.get(r).minutes;
                    w.leader = q == p ? -1 : p;
                }
            }
            return roads.get(r).minutes;
        }

        /** One minute; the people who come to a place in it. */
        List<Integer> tick() {
            List<Integer> came = new ArrayList<>();
            for (int p = 0; p < people.size(); p++) {
                One o = people.get(p);
                if (o.at >= 0 || o.leader >= 0) {
                    continue;
                }
                List<Integer> group = new ArrayList<>();
                for (int q = 0; q < people.size(); q++) {
                    if (q == p || people.get(q).leader == p) {
                        group.add(q);
                    }
                }
                boolean moves = can(p, o.road, minute);
                for (int q : group) {
                    if (moves) {
                        people.get(q).left--;
                    } else {
                        people.get(q).lost++;
                    }
                }
                if (o.left == 0) {
                    int r = o.road;
                    int to = o.to;
                    for (int q : group) {
                        One w = people.get(q);
                        w.gone[r] = Math.min(99, w.gone[r] + 1);
                        if (q != p) {
                            w.owes[p] = Math.min(9999, w.owes[p] + roads.get(r).minutes);
                            o.owes[q] = -w.owes[p];
                        }
                        w.stay(to);
                        came.add(q);
                    }
                }
            }
            minute++;
            return came;
        }

        int lost() {
            int sum = 0;
            for (One o : people) {
                sum += o.lost;
            }
            return sum;
        }
    }

    World w = new World();
    final List<World> marks = new ArrayList<>();
    final long[][] trays = new long[4][];
    final int[] sorts = new int[4];
    final StringBuilder tape = new StringBuilder();
    int status;
    BigInteger top = BigInteger.ZERO;
    BigInteger bottom = BigInteger.ONE;
    int faultKind = -1;
    int faultPlace = -1;
    int[] livedLast;

    static void refuseIf(boolean is, int status) {
        if (is) {
            throw new Refused(status);
        }
    }

    // ---- texts

    static final Set<String> RESERVED = Set.of("glare", "to", "clock", "rope", "habit", "odds",
            "place", "road", "minutes", "smells", "sighted", "at", "glasses", "blind", "knows",
            "wait", "go", "lead", "any", "cloud", "clear", "when", "lost", "loop", "end", "stop");

    private List<Token> tokens;
    private int nextToken;

    private void scan(String text) {
        tokens = new ArrayList<>();
        nextToken = 0;
        int i = 0;
        while (i < text.length()) {
            char c = text.charAt(i);
            if (c == ' ' || c == '\n') {
                i++;
                continue;
            }
            Token t = new Token();
            t.at = i;
            int j = i + 1;
            if (c >= 'a' && c <= 'z') {
                while (j < text.length() && text.charAt(j) >= 'a' && text.charAt(j) <= 'z') {
                    j++;
                }
                t.kind = 'w';
            } else if (c >= '0' && c <= '9') {
                while (j < text.length() && text.charAt(j) >= '0' && text.charAt(j) <= '9') {
                    j++;
                }
                t.kind = j - i > 4 ? 'x' : 'n';
            } else {
                t.kind = ";<>=".indexOf(c) >= 0 ? 's' : 'x';
            }
            t.text = text.substring(i, j);
            tokens.add(t);
            i = j;
        }
        Token end = new Token();
        end.kind = 'e';
        end.text = "";
        end.at = text.length();
        tokens.add(end);
    }

    private Token peek() {
        return tokens.get(nextToken);
    }

    private Token take() {
        return tokens.get(nextToken++);
    }

    private static Fault misplaced(Token t) {
        return new Fault(t.kind == 'x' ? 1 : 2, t.at);
    }

    private void takeText(String text) {
        if (!peek().text.equals(text)) {
            throw misplaced(peek());
        }
        take();
    }

    private int takeNumber(int least, int most) {
        Token t = peek();
        if (t.kind != 'n') {
            throw misplaced(t);
        }
        int n = Integer.parseInt(t.text);
        if (n < least || n > most) {
            throw new Fault(4, t.at);
        }
        take();
        return n;
    }

    private Token takeName() {
        Token t = peek();
        if (t.kind != 'w' || t.text.length() > 8 || RESERVED.contains(t.text)) {
            throw misplaced(t);
        }
        return take();
    }

    private int takePlace(World v) {
        Token t = takeName();
        if (!v.places.contains(t.text)) {
            throw new Fault(3, t.at);
        }
        return v.places.indexOf(t.text);
    }

    private static int personNamed(World v, String name) {
        for (int p = 0; p < v.people.size(); p++) {
            if (v.people.get(p).name.equals(name)) {
                return p;
            }
        }
        return -1;
    }

    private int takePerson(World v) {
        Token t = takeName();
        if (personNamed(v, t.text) < 0) {
            throw new Fault(3, t.at);
        }
        return personNamed(v, t.text);
    }

    private String takeNew(World v) {
        Token t = takeName();
        if (v.places.contains(t.text) || personNamed(v, t.text) >= 0) {
            throw new Fault(3, t.at);
        }
        return t.text;
    }

    private World parseLand(String text) {
        scan(text);
        World v = new World();
        List<String> told = new ArrayList<>();
        boolean knows = false;
        while (peek().kind != 'e') {
            Token t = peek();
            switch (t.text) {
                case "glare": case "clock": case "rope": case "habit": case "odds":
                    if (told.contains(t.text) || t.text.equals("habit") && knows) {
                        throw new Fault(5, t.at);
                    }
                    told.add(t.text);
                    take();
                    parseNumbers(v, t.text);
                    break;
                case "place":
                    if (v.places.size() == 8) {
                        throw new Fault(6, t.at);
                    }
                    take();
                    v.places.add(takeNew(v));
                    break;
                case "road":
                    if (v.roads.size() == 12) {
                        throw new Fault(6, t.at);
                    }
                    take();
                    parseRoad(v);
                    break;
                case "sighted": case "blind":
                    if (v.people.size() == 8) {
                        throw new Fault(6, t.at);
                    }
                    take();
                    parsePerson(v, t.text.equals("sighted"));
                    break;
                case "knows":
                    knows = true;
                    take();
                    parseKnows(v);
                    break;
                default:
                    throw misplaced(t);
            }
            takeText(";");
        }
        return v;
    }

    private void parseNumbers(World v, String word) {
        switch (word) {
            case "glare":
                v.from = takeNumber(0, 23);
                takeText("to");
                v.till = takeNumber(v.from + 1, 24);
                break;
            case "clock": v.minute = takeNumber(0, 1439); break;
            case "rope": v.rope = takeNumber(1, 9); break;
            case "habit": v.habit = takeNumber(1, 9); break;
            default: v.odds = takeNumber(0, 16); break;
        }
    }

    private void parseRoad(World v) {
        Road r = new Road();
        r.a = takePlace(v);
        int at = peek().at;
        r.b = takePlace(v);
        if (r.a == r.b || v.roadOf(r.a, r.b) >= 0) {
            throw new Fault(5, at);
        }
        takeText("minutes");
        r.minutes = takeNumber(1, 99);
        if (peek().text.equals("smells")) {
            take();
            r.smells = true;
        }
        v.roads.add(r);
    }

    private void parsePerson(World v, boolean sighted) {
        One o = new One();
        o.name = takeNew(v);
        o.sighted = sighted;
        takeText("at");
        o.at = takePlace(v);
        if (sighted && peek().text.equals("glasses")) {
            take();
            o.glasses = true;
        }
        v.people.add(o);
    }

    private void parseKnows(World v) {
        int p = takePerson(v);
        int a = takePlace(v);
        int at = peek().at;
        int b = takePlace(v);
        int r = v.roadOf(a, b);
        if (r < 0) {
            throw new Fault(3, at);
        }
        v.people.get(p).gone[r] = v.habit;
    }

    private int stepCount;

    private List<Step> parseDays(String text) {
        scan(text);
        stepCount = 0;
        List<Step> steps = parseSteps(0);
        if (peek().kind != 'e') {
            throw misplaced(peek());
        }
        return steps;
    }

    private List<Step> parseSteps(int depth) {
        List<Step> steps = new ArrayList<>();
        while (List.of("wait", "go", "lead", "any", "cloud", "clear", "when", "loop", "stop")
                .contains(peek().text)) {
            Token t = peek();
            if (stepCount == 30) {
                throw new Fault(6, t.at);
            }
            if (depth == 3 && (t.text.equals("when") || t.text.equals("loop"))) {
                throw new Fault(7, t.at);
            }
            stepCount++;
            take();
            steps.add(parseStep(t.text, depth));
        }
        return steps;
    }

    private Step parseStep(String word, int depth) {
        Step s = new Step();
        s.kind = word;
        switch (word) {
            case "wait": s.a = takeNumber(1, 600); break;
            case "go":
                s.a = takePerson(w);
                s.b = takePlace(w);
                break;
            case "lead":
                s.a = takePerson(w);
                int at = peek().at;
                s.b = takePerson(w);
                if (s.a == s.b) {
                    throw new Fault(5, at);
                }
                s.c = takePlace(w);
                break;
            case "loop": s.a = takeNumber(1, 99); break;
            case "when": parseTest(s); break;
            default: break;
        }
        takeText(";");
        if (word.equals("loop") || word.equals("when")) {
            s.body = parseSteps(depth + 1);
            takeText("end");
            takeText(";");
        }
        return s;
    }

    private void parseTest(Step s) {
        Token t = peek();
        if (t.text.equals("at")) {
            take();
            s.kind = "at";
            s.a = takePerson(w);
            s.b = takePlace(w);
        } else if (t.text.equals("glare")) {
            take();
            s.kind = "glare";
        } else if (t.text.equals("lost")) {
            take();
            s.kind = "lost";
            s.a = takePerson(w);
            if (peek().kind != 's' || peek().text.equals(";")) {
                throw misplaced(peek());
            }
            s.sign = take().text.charAt(0);
            s.b = takeNumber(0, 9999);
        } else {
            throw misplaced(t);
        }
    }

    private String takeTape(int n, int most) {
        refuseIf(n < 0 || n > tape.length() || n > most, 5);
        String text = tape.substring(0, n);
        tape.setLength(0);
        return text;
    }

    private void keepFault(int kind, int place) {
        faultKind = kind;
        faultPlace = place;
        refuseIf(kind > 0, 10);
    }

    private long landOf(int n) {
        String text = takeTape(n, 900);
        try {
            w = parseLand(text);
        } catch (Fault f) {
            keepFault(f.kind, f.place);
        }
        keepFault(0, -1);
        return w.people.size();
    }

    private long daysOf(int n) {
        String text = takeTape(n, 300);
        try {
            w.days = parseDays(text);
            w.dayCount = stepCount;
        } catch (Fault f) {
            keepFault(f.kind, f.place);
        }
        keepFault(0, -1);
        return w.dayCount;
    }

    // ---- tests of arguments

    private One person(long p) {
        refuseIf(p < 0 || p >= w.people.size(), 2);
        return w.people.get((int) p);
    }

    private void place(long p) {
        refuseIf(p < 0 || p >= w.places.size(), 2);
    }

    private Road road(long r) {
        refuseIf(r < 0 || r >= w.roads.size(), 2);
        return w.roads.get((int) r);
    }

    private void isTray(long t) {
        refuseIf(t < 0 || t > 3, 1);
    }

    private static void hours(long from, long till) {
        refuseIf(from < 0 || from > 23 || till < 1 || till > 24 || till <= from, 5);
    }

    private static long some(long v) {
        refuseIf(v < 0, 8);
        return v;
    }

    // ---- ways

    /** The minute at which p, who begins a road at a minute, is at its end; -1: not in 3 weeks. */
    private int walk(int p, int r, int start) {
        int left = w.roads.get(r).minutes;
        for (int t = start; t < start + 30240; t++) {
            if (w.can(p, r, t)) {
                left--;
            }
            if (left == 0) {
                return t + 1;
            }
        }
        return -1;
    }

    /** Minute by minute: the first minute at which one of the walkers' places is the goal. */
    private int explore(boolean[][] at, int[] walkers, int goal, int horizon) {
        int start = w.minute;
        for (int t = 0; t < horizon; t++) {
            if (at[goal][t]) {
                return t;
            }
            for (int place = 0; place < w.places.size(); place++) {
                if (!at[place][t]) {
                    continue;
                }
                at[place][t + 1] = true;
                for (int r = 0; r < w.roads.size(); r++) {
                    Road road = w.roads.get(r);
                    if (road.a != place && road.b != place) {
                        continue;
                    }
                    int to = road.a == place ? road.b : road.a;
                    for (int p : walkers) {
                        int come = w.can(p, r, start + t) ? walk(p, r, start + t) - start : -1;
                        if (come >= 0 && come <= horizon) {
                            at[to][come] = true;
                        }
                    }
                }
            }
        }
        return -1;
    }

    private int horizon() {
        int sum = 0;
        for (Road r : w.roads) {
            sum += r.minutes;
        }
        int clear = 1440 - 60 * (w.till - w.from);
        if (clear == 0 || w.cloudy) {
            return sum + 2;
        }
        return (sum / clear + 2) * 1440;
    }

    private int soonest(int[] walkers, int from, int goal) {
        int horizon = horizon();
        boolean[][] at = new boolean[8][horizon + 1];
        at[from][0] = true;
        return explore(at, walkers, goal, horizon);
    }

    private int firstPlace(int p, int goal) {
        int best = (int) some(soonest(new int[] {p}, w.people.get(p).at, goal));
        int from = w.people.get(p).at;
        int horizon = horizon();
        for (int f = 0; f < w.places.size(); f++) {
            int r = w.roadOf(from, f);
            if (r < 0) {
                continue;
            }
            boolean[][] at = new boolean[8][horizon + 1];
            for (int t = 0; t <= best; t++) {
                int come = w.can(p, r, w.minute + t) ? walk(p, r, w.minute + t) - w.minute : -1;
                if (come >= 0 && come <= horizon) {
                    at[f][come] = true;
                }
            }
            if (explore(at, new int[] {p}, goal, horizon) == best) {
                return f;
            }
        }
        throw new IllegalStateException("no first place");
    }

    /** The place, and the minutes. */
    private int[] meeting(long p, long q) {
        One a = person(p);
        One b = person(q);
        refuseIf(p == q || a.at < 0 || b.at < 0, 9);
        int[] best = null;
        for (int place = 0; place < w.places.size(); place++) {
            int one = soonest(new int[] {(int) p}, a.at, place);
            int two = soonest(new int[] {(int) q}, b.at, place);
            int later = Math.max(one, two);
            if (one >= 0 && two >= 0 && (best == null || later < best[1])) {
                best = new int[] {place, later};
            }
        }
        refuseIf(best == null, 8);
        return best;
    }

    private boolean comes(int p, int goal, int planted) {
        int from = w.people.get(p).at;
        boolean[] seen = new boolean[8];
        Deque<Integer> open = new ArrayDeque<>();
        seen[from] = true;
        open.add(from);
        while (!open.isEmpty()) {
            int place = open.remove();
            for (int r = 0; r < w.roads.size(); r++) {
                Road road = w.roads.get(r);
                boolean ok = w.can(p, r, w.minute) || (planted >> r & 1) == 1;
                if (ok && (road.a == place || road.b == place)) {
                    int to = road.a == place ? road.b : road.a;
                    if (!seen[to]) {
                        seen[to] = true;
                        open.add(to);
                    }
                }
            }
        }
        return seen[goal];
    }

    private int plantSet(long p, long goal) {
        One o = person(p);
        place(goal);
        refuseIf(o.sighted || o.at < 0, 9);
        for (int many = 0; many <= w.roads.size(); many++) {
            for (int set = 0; set < 1 << w.roads.size(); set++) {
                if (Integer.bitCount(set) == many && comes((int) p, (int) goal, set)) {
                    return set;
                }
            }
        }
        throw new Refused(8);
    }

    private long ways(int p, int place, int to, int n) {
        if (n == 0) {
            return place == to ? 1 : 0;
        }
        long sum = 0;
        for (int r = 0; r < w.roads.size(); r++) {
            Road road = w.roads.get(r);
            boolean ok = w.people.get(p).sighted || w.can(p, r, 0);
            if (ok && (road.a == place || road.b == place)) {
                sum += ways(p, road.a == place ? road.b : road.a, to, n - 1);
            }
        }
        return sum;
    }

    // ---- pairs

    private Comparator<Integer> liking(int who) {
        return Comparator.<Integer>comparingInt(o -> -w.people.get(o).owes[who])
                .thenComparingInt(o -> o);
    }

    private int[] pairs() {
        int[] with = new int[8];
        Arrays.fill(with, -1);
        List<Deque<Integer>> lists = new ArrayList<>();
        Deque<Integer> free = new ArrayDeque<>();
        for (int p = 0; p < w.people.size(); p++) {
            List<Integer> others = new ArrayList<>();
            for (int q = 0; q < w.people.size(); q++) {
                if (w.people.get(p).sighted != w.people.get(q).sighted) {
                    others.add(q);
                }
            }
            others.sort(liking(p));
            lists.add(new ArrayDeque<>(others));
            if (w.people.get(p).sighted) {
                free.add(p);
            }
        }
        while (!free.isEmpty()) {
            int s = free.remove();
            if (lists.get(s).isEmpty()) {
                continue;
            }
            int b = lists.get(s).remove();
            int old = with[b];
            if (old >= 0 && liking(b).compare(old, s) < 0) {
                free.addFirst(s);
                continue;
            }
            if (old >= 0) {
                with[old] = -1;
                free.addFirst(old);
            }
            with[b] = s;
            with[s] = b;
        }
        return with;
    }

    // ---- odds, other hours

    private void fraction(BigInteger a, BigInteger b) {
        BigInteger g = a.gcd(b);
        top = a.divide(g);
        bottom = b.divide(g);
    }

    private void clouds(int n, int k) {
        BigInteger[] odds = new BigInteger[n + 2];
        Arrays.fill(odds, BigInteger.ZERO);
        odds[0] = BigInteger.ONE;
        for (int day = 0; day < n; day++) {
            for (int i = day + 1; i >= 0; i--) {
                BigInteger clear = odds[i].multiply(BigInteger.valueOf(16 - w.odds));
                BigInteger more = i == 0 ? BigInteger.ZERO
                        : odds[i - 1].multiply(BigInteger.valueOf(w.odds));
                odds[i] = clear.add(more);
            }
        }
        BigInteger sum = BigInteger.ZERO;
        for (int i = k; i <= n; i++) {
            sum = sum.add(odds[i]);
        }
        fraction(sum, BigInteger.valueOf(16).pow(n));
    }

    private int lostBy(int minutes, int from, int till) {
        World v = w.copy();
        v.from = from;
        v.till = till;
        for (int i = 0; i < minutes; i++) {
            v.tick();
        }
        return v.lost() - w.lost();
    }

    private int bestFrom(int minutes) {
        int best = 0;
        int fewest = Integer.MAX_VALUE;
        for (int f = 0; f < 24; f++) {
            int lost = lostBy(minutes, f, Math.min(24, f + w.till - w.from));
            if (lost < fewest) {
                fewest = lost;
                best = f;
            }
        }
        return best;
    }

    private int arrives(int p) {
        World v = w.copy();
        for (int t = 1; t <= 9999; t++) {
            v.tick();
            if (v.people.get(p).at >= 0) {
                return t;
            }
        }
        throw new Refused(8);
    }

    // ---- days

    private static final class Run {
        int drawn;
        int done;
        int missed;
        int minutes;
        int came;
        boolean cut;
    }

    private static int draw(Run run, int n) {
        run.drawn = (run.drawn * 2971 + 10733) % 65536;
        return run.drawn / 8 % n;
    }

    private static void runAll(World v, List<Step> steps, Run run) {
        for (Step s : steps) {
            if (run.done == 300) {
                run.cut = true;
                throw new Halt();
            }
            run.done++;
            if (s.kind.equals("stop")) {
                throw new Halt();
            }
            try {
                runOne(v, s, run);
            } catch (Refused r) {
                run.missed++;
            }
        }
    }

    private static void runOne(World v, Step s, Run run) {
        switch (s.kind) {
            case "wait":
                refuseIf(v.minute + s.a > 99999, 9);
                for (int i = 0; i < s.a; i++) {
                    run.came += v.tick().size();
                    run.minutes++;
                }
                break;
            case "go": v.leave(s.a, 0, s.b); break;
            case "lead": v.leave(s.a, 1 << s.b, s.c); break;
            case "any":
                refuseIf(v.people.isEmpty(), 9);
                int p = draw(run, v.people.size());
                v.leave(p, 0, draw(run, v.places.size()));
                break;
            case "cloud":
                refuseIf(v.cloudy, 9);
                v.cloudy = true;
                break;
            case "clear":
                refuseIf(!v.cloudy, 9);
                v.cloudy = false;
                break;
            case "loop":
                for (int i = 0; i < s.a; i++) {
                    runAll(v, s.body, run);
                }
                break;
            default:
                if (holds(v, s)) {
                    runAll(v, s.body, run);
                }
        }
    }

    private static boolean holds(World v, Step s) {
        switch (s.kind) {
            case "at": return v.people.get(s.a).at == s.b;
            case "glare": return v.glareAt(v.minute);
            default:
                int c = Integer.compare(v.people.get(s.a).lost, s.b);
                return s.sign == '<' ? c < 0 : s.sign == '>' ? c > 0 : c == 0;
        }
    }

    private static Run lifeOf(World v, int seed) {
        Run run = new Run();
        run.drawn = seed;
        try {
            runAll(v, v.days, run);
        } catch (Halt h) {
            return run;
        }
        return run;
    }

    private long live(long seed) {
        refuseIf(seed < 0 || seed > 9999, 5);
        refuseIf(w.days == null, 8);
        int ahead = w.lost();
        Run run = lifeOf(w, (int) seed);
        livedLast = new int[] {run.missed, run.minutes, run.came, w.lost() - ahead,
            run.cut ? 1 : 0};
        return run.done;
    }

    private void mean(long seed, long many) {
        refuseIf(seed < 0 || seed > 9999 || many < 1 || many > 20 || seed + many - 1 > 9999, 5);
        refuseIf(w.days == null, 8);
        long sum = 0;
        for (int i = 0; i < many; i++) {
            World v = w.copy();
            lifeOf(v, (int) seed + i);
            sum += v.lost();
        }
        fraction(BigInteger.valueOf(sum), BigInteger.valueOf(many));
    }

    // ---- the calls

    /** The answer of a call of the face, booleans as 1 and 0. */
    long call(String name, long... a) {
        switch (name) {
            case "status": return status;
            case "top": return top.longValueExact();
            case "bottom": return bottom.longValueExact();
            case "fault": return a[0] == 0 ? faultKind : a[0] == 1 ? faultPlace : -1;
            case "feed": return feed(a);
            default: break;
        }
        try {
            long answer = told(name, a);
            status = 0;
            return answer;
        } catch (Refused r) {
            status = r.status;
            return Calls.IS_BOOLEAN.contains(name) ? 0 : -1;
        }
    }

    private long feed(long[] a) {
        if (tape.length() + 20 > 900) {
            return -1;
        }
        for (long v : a) {
            for (int shift = 24; shift >= 0; shift -= 8) {
                tape.append((char) (v >> shift & 255));
            }
        }
        return tape.length();
    }

    private long told(String name, long[] a) {
        switch (name) {
            case "tray": case "write": case "read": case "pour": case "copyPlaces":
                return toldOfTrays(name, a);
            case "land": return landOf((int) a[0]);
            case "days": return daysOf((int) a[0]);
            case "many": return many((int) a[0]);
            case "road": case "roadOf": case "person": case "gone": case "owes": case "net":
                return toldOfLand(name, a);
            case "passes": case "go": case "lead": case "turn": case "cloud": case "plant":
            case "glasses": case "cure": case "settle": case "rule":
                return done(name, a);
            case "glareAt": case "can": case "guides": case "stuck": case "reach":
            case "nextGlare":
                return toldOfCan(name, a);
            case "soonest": case "soonestFirst": case "soonestTwo": case "meet": case "meetIn":
            case "plants": case "plantSet": case "ways":
                return toldOfWays(name, a);
            default:
                return toldOfRest(name, a);
        }
    }

    private static boolean inside(long[] row, long place, long many) {
        return place >= 0 && place <= row.length && place + many <= row.length;
    }

    private static long cut(int sort, long v) {
        int bits = 8 << sort;
        return bits == 64 ? v : v << 64 - bits >> 64 - bits;
    }

    private long toldOfTrays(String name, long[] a) {
        isTray(a[0]);
        int t = (int) a[0];
        switch (name) {
            case "tray":
                refuseIf(a[1] < 0 || a[1] > 3, 1);
                refuseIf(a[2] > 60, 5);
                refuseIf(a[2] < 0, 6);
                trays[t] = new long[(int) a[2]];
                sorts[t] = (int) a[1];
                return 1;
            case "write":
                refuseIf(trays[t] == null, 3);
                refuseIf(!inside(trays[t], a[1], 1), 4);
                trays[t][(int) a[1]] = cut(sorts[t], a[2]);
                return 1;
            case "read":
                refuseIf(trays[t] == null, 3);
                refuseIf(!inside(trays[t], a[1], 1), 4);
                return trays[t][(int) a[1]];
            case "pour":
                isTray(a[2]);
                int to = (int) a[2];
                refuseIf(trays[t] == null || trays[to] == null, 3);
                refuseIf(sorts[t] != sorts[to], 11);
                refuseIf(a[4] < 0, 6);
                refuseIf(!inside(trays[t], a[1], a[4]) || !inside(trays[to], a[3], a[4]), 4);
                long[] old = trays[t].clone();
                for (int i = 0; i < a[4]; i++) {
                    trays[to][(int) a[3] + i] = old[(int) a[1] + i];
                }
                return 1;
            default:
                refuseIf(trays[t] == null, 3);
                refuseIf(trays[t].length < w.people.size(), 4);
                for (int p = 0; p < w.people.size(); p++) {
                    trays[t][p] = w.people.get(p).at;
                }
                return w.people.size();
        }
    }

    private long many(int what) {
        switch (what) {
            case 0: return w.places.size();
            case 1: return w.roads.size();
            case 2: return w.people.size();
            case 3: return w.from;
            case 4: return w.till;
            case 5: return w.minute;
            case 6: return w.rope;
            case 7: return w.habit;
            case 8: return w.odds;
            case 9: return w.glareAt(w.minute) ? 1 : 0;
            case 10: return w.cloudy ? 1 : 0;
            case 14: return w.lost();
            default: break;
        }
        refuseIf(what < 11 || what > 13, 5);
        long set = 0;
        for (int p = 0; p < w.people.size(); p++) {
            One o = w.people.get(p);
            boolean in = what == 11 ? !o.sighted : what == 12 ? o.at < 0 : o.leader >= 0;
            set |= in ? 1 << p : 0;
        }
        return set;
    }

    private long toldOfLand(String name, long[] a) {
        switch (name) {
            case "road":
                Road r = road(a[0]);
                refuseIf(a[1] < 0 || a[1] > 3, 5);
                return new long[] {r.a, r.b, r.minutes, r.smells ? 1 : 0}[(int) a[1]];
            case "roadOf":
                place(a[0]);
                place(a[1]);
                return some(w.roadOf((int) a[0], (int) a[1]));
            case "person":
                One o = person(a[0]);
                refuseIf(a[1] < 0 || a[1] > 5, 5);
                long[] all = {o.at, o.to, o.left, o.leader, o.lost, o.glasses ? 1 : 0};
                return some(all[(int) a[1]]);
            case "gone":
                road(a[1]);
                return person(a[0]).gone[(int) a[1]];
            case "owes":
                person(a[0]);
                person(a[1]);
                refuseIf(a[0] == a[1], 9);
                return w.people.get((int) a[0]).owes[(int) a[1]];
            default:
                person(a[0]);
                long sum = 0;
                for (One other : w.people) {
                    sum += other.owes[(int) a[0]];
                }
                return sum;
        }
    }

    private long done(String name, long[] a) {
        switch (name) {
            case "passes":
                refuseIf(a[0] < 1 || a[0] > 999, 5);
                refuseIf(w.minute + a[0] > 99999, 7);
                long set = 0;
                for (int i = 0; i < a[0]; i++) {
                    for (int p : w.tick()) {
                        set |= 1L << p;
                    }
                }
                return set;
            case "go":
                person(a[0]);
                place(a[1]);
                return w.leave((int) a[0], 0, (int) a[1]);
            case "lead":
                person(a[0]);
                place(a[2]);
                refuseIf(a[1] <= 0 || a[1] >= 1L << w.people.size() || (a[1] >> a[0] & 1) == 1
                        || Long.bitCount(a[1]) > w.rope, 5);
                return w.leave((int) a[0], (int) a[1], (int) a[2]);
            case "turn":
                One o = person(a[0]);
                refuseIf(o.at >= 0 || o.leader >= 0, 9);
                for (One other : w.people) {
                    if (other.leader == a[0]) {
                        other.stay(other.origin);
                    }
                }
                o.stay(o.origin);
                return 1;
            case "cloud":
                refuseIf(w.cloudy == (a[0] == 1), 9);
                w.cloudy = a[0] == 1;
                return 1;
            case "plant":
                Road r = road(a[0]);
                refuseIf(r.smells == (a[1] == 1), 9);
                r.smells = a[1] == 1;
                return 1;
            default: return doneTo(name, a);
        }
    }

    private long doneTo(String name, long[] a) {
        if (name.equals("rule")) {
            hours(a[0], a[1]);
            w.from = (int) a[0];
            w.till = (int) a[1];
            return 1;
        }
        One o = person(a[0]);
        switch (name) {
            case "glasses":
                refuseIf(!o.sighted || o.glasses == (a[1] == 1), 9);
                o.glasses = a[1] == 1;
                return 1;
            case "cure":
                refuseIf(o.sighted == (a[1] == 1), 9);
                o.sighted = a[1] == 1;
                o.glasses = false;
                return 1;
            default:
                One other = person(a[1]);
                refuseIf(a[0] == a[1], 9);
                long owed = o.owes[(int) a[1]];
                o.owes[(int) a[1]] = 0;
                other.owes[(int) a[0]] = 0;
                return owed;
        }
    }

    private long toldOfCan(String name, long[] a) {
        switch (name) {
            case "glareAt":
                refuseIf(a[0] < 0 || a[0] > 99999, 5);
                return w.glareAt((int) a[0]) ? 1 : 0;
            case "can":
                person(a[0]);
                road(a[1]);
                return w.can((int) a[0], (int) a[1], w.minute) ? 1 : 0;
            case "guides":
                place(a[0]);
                place(a[1]);
                int r = w.roadOf((int) a[0], (int) a[1]);
                refuseIf(r < 0, 9);
                long set = 0;
                for (int p = 0; p < w.people.size(); p++) {
                    set |= w.people.get(p).at == a[0] && w.can(p, r, w.minute) ? 1 << p : 0;
                }
                return set;
            case "stuck":
                long stuck = 0;
                for (int p = 0; p < w.people.size(); p++) {
                    boolean free = w.people.get(p).at < 0;
                    for (int i = 0; i < w.roads.size(); i++) {
                        Road road = w.roads.get(i);
                        int at = w.people.get(p).at;
                        free |= (road.a == at || road.b == at) && w.can(p, i, w.minute);
                    }
                    stuck |= free ? 0 : 1 << p;
                }
                return stuck;
            case "reach":
                refuseIf(person(a[0]).at < 0, 9);
                long reached = 0;
                for (int p = 0; p < w.places.size(); p++) {
                    reached |= comes((int) a[0], p, 0) ? 1 << p : 0;
                }
                return reached;
            default:
                refuseIf(a[0] != 0 && a[0] != 1, 5);
                for (int in = 0; in <= 1440; in++) {
                    if (w.glareAt(w.minute + in) == (a[0] == 1)) {
                        return in;
                    }
                }
                throw new Refused(8);
        }
    }

    private long toldOfWays(String name, long[] a) {
        switch (name) {
            case "soonest": case "soonestFirst":
                One o = person(a[0]);
                place(a[1]);
                refuseIf(o.at < 0, 9);
                if (name.equals("soonest")) {
                    return some(soonest(new int[] {(int) a[0]}, o.at, (int) a[1]));
                }
                refuseIf(o.at == a[1], 9);
                return firstPlace((int) a[0], (int) a[1]);
            case "soonestTwo":
                One p = person(a[0]);
                One q = person(a[1]);
                place(a[2]);
                refuseIf(a[0] == a[1] || p.at < 0 || q.at < 0 || p.at != q.at, 9);
                return some(soonest(new int[] {(int) a[0], (int) a[1]}, p.at, (int) a[2]));
            case "meet": return meeting(a[0], a[1])[0];
            case "meetIn": return meeting(a[0], a[1])[1];
            case "plants": return Integer.bitCount(plantSet(a[0], a[1]));
            case "plantSet": return plantSet(a[0], a[1]);
            default:
                person(a[0]);
                place(a[1]);
                place(a[2]);
                refuseIf(a[3] < 0 || a[3] > 10, 5);
                return ways((int) a[0], (int) a[1], (int) a[2], (int) a[3]);
        }
    }

    private long toldOfRest(String name, long[] a) {
        switch (name) {
            case "pair":
                person(a[0]);
                return some(pairs()[(int) a[0]]);
            case "pairs":
                return Arrays.stream(pairs()).filter(p -> p >= 0).count() / 2;
            case "pairsOwe":
                int[] with = pairs();
                long sum = 0;
                for (int p = 0; p < 8; p++) {
                    sum += with[p] > p ? Math.abs(w.people.get(p).owes[with[p]]) : 0;
                }
                return sum;
            case "dearest":
                One o = person(a[0]);
                int most = Arrays.stream(o.owes).max().getAsInt();
                refuseIf(most <= 0, 8);
                for (int p = 0; ; p++) {
                    if (o.owes[p] == most) {
                        return p;
                    }
                }
            case "clouds":
                refuseIf(a[0] < 0 || a[0] > 12 || a[1] < 0 || a[1] > 12, 5);
                clouds((int) a[0], (int) a[1]);
                return 1;
            case "lostIn":
                refuseIf(a[0] < 0 || a[0] > 999, 5);
                return lostBy((int) a[0], w.from, w.till);
            case "lostBy":
                refuseIf(a[0] < 0 || a[0] > 999, 5);
                hours(a[1], a[2]);
                return lostBy((int) a[0], (int) a[1], (int) a[2]);
            case "bestFrom":
                refuseIf(a[0] < 0 || a[0] > 999, 5);
                return bestFrom((int) a[0]);
            case "arrives":
                refuseIf(person(a[0]).at >= 0, 9);
                return arrives((int) a[0]);
            default: return toldOfDays(name, a);
        }
    }

    private long toldOfDays(String name, long[] a) {
        switch (name) {
            case "live": return live(a[0]);
            case "lived":
                refuseIf(a[0] < 0 || a[0] > 4, 5);
                refuseIf(livedLast == null, 8);
                return livedLast[(int) a[0]];
            case "mean":
                mean(a[0], a[1]);
                return 1;
            case "mark":
                refuseIf(marks.size() == 3, 7);
                marks.add(w.copy());
                return marks.size();
            case "back":
                refuseIf(marks.isEmpty(), 8);
                w = marks.remove(marks.size() - 1);
                return marks.size();
            default: throw new IllegalArgumentException(name);
        }
    }
}
