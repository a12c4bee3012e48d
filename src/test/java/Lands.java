/** Texts of lands: as much as there can be, and what takes the most rounds to find. */
final class Lands {
    static final int MOST = Integer.MAX_VALUE;
    static final int LEAST = Integer.MIN_VALUE;

    /** All words that are no names. */
    static final String[] KEYWORDS = {"glare", "to", "clock", "rope", "habit", "odds", "place",
        "road", "minutes", "smells", "sighted", "at", "glasses", "blind", "knows", "wait", "go",
        "lead", "any", "cloud", "clear", "when", "lost", "loop", "end", "stop"};

    private Lands() {
    }

    /** Places a, b .. so many. */
    static String places(int many) {
        StringBuilder s = new StringBuilder();
        for (int i = 0; i < many; i++) {
            s.append("place ").append((char) ('a' + i)).append(';');
        }
        return s.toString();
    }

    static String road(char from, char to, int minutes, boolean smells) {
        return "road " + from + ' ' + to + " minutes " + minutes + (smells ? " smells;" : ";");
    }

    /** A row of eight places, its roads told from the far end, so that each round finds one more. */
    static String row(int minutes, boolean smells) {
        StringBuilder s = new StringBuilder(places(8));
        for (char from = 'g'; from >= 'a'; from--) {
            s.append(road(from, (char) (from + 1), minutes, smells));
        }
        return s.toString();
    }

    /** The row of eight places with roads of 1 minute that smell, and five more of 99 that don't. */
    static String twelveRoads() {
        return row(1, true) + road('a', 'c', 99, false) + road('a', 'd', 99, false)
                + road('a', 'e', 99, false) + road('a', 'f', 99, false) + road('h', 'a', 99, false);
    }

    /** 0, 1, 4, 5 (w, x, y, z) are blind, 2, 3, 6, 7 (s, t, u, v) sighted; all are at a. */
    static String eightPeople() {
        return "blind w at a;blind x at a;sighted s at a;sighted t at a;"
                + "blind y at a;blind z at a;sighted u at a;sighted v at a;";
    }

    /** Eight places, twelve roads, eight people, at midnight. */
    static String full() {
        return "clock 0;habit 1;" + twelveRoads() + eightPeople();
    }

    static String blanks(int many) {
        return " ".repeat(Math.max(0, many));
    }

    static String steps(String step, int many) {
        return step.repeat(many);
    }
}
