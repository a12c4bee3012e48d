/** All that an object tells of itself, as a text. The object is used up by it. */
final class Snapshot {
    private Snapshot() {
    }

    static String of(NoonGuides x) {
        StringBuilder s = new StringBuilder();
        s.append("fault ").append(x.fault(0)).append(' ').append(x.fault(1));
        s.append(" fraction ").append(x.top()).append('/').append(x.bottom());
        s.append(" tape ").append(x.feed(0, 0, 0, 0, 0)).append('\n');
        return s.append(withoutTape(x)).toString();
    }

    /** But for the tape, and what fault tells. */
    static String withoutTape(NoonGuides x) {
        StringBuilder s = new StringBuilder();
        s.append("fraction ").append(x.top()).append('/').append(x.bottom()).append(" lived");
        for (int i = 0; i < 5; i++) {
            s.append(' ').append(x.lived(i));
        }
        appendTrays(s, x);
        appendLand(s, x);
        s.append("live ").append(x.live(77)).append('\n');
        appendLand(s, x);
        appendOrigins(s, x);
        for (int i = 0; i < 4; i++) {
            s.append("back ").append(x.back()).append(" live ").append(x.live(5)).append(' ')
                    .append(x.many(5)).append(' ').append(x.many(14)).append(' ')
                    .append(x.many(12)).append('\n');
        }
        return s.toString();
    }

    /** The LAND with all that became of it, and where those on a ROAD came from. */
    static String ofLand(NoonGuides x) {
        StringBuilder s = new StringBuilder();
        appendLand(s, x);
        appendOrigins(s, x);
        return s.toString();
    }

    private static void appendOrigins(StringBuilder s, NoonGuides x) {
        int people = x.many(2);
        for (int p = 0; p < people; p++) {
            x.turn(p);
        }
        s.append("from");
        for (int p = 0; p < people; p++) {
            s.append(' ').append(x.person(p, 0));
        }
        s.append('\n');
    }

    private static void appendTrays(StringBuilder s, NoonGuides x) {
        for (int t = 0; t < 4; t++) {
            s.append("\ntray ").append(t).append(':');
            for (int i = 0; i < 61; i++) {
                long v = x.read(t, i);
                if (x.status() != 0) {
                    s.append(" status ").append(x.status());
                    break;
                }
                s.append(' ').append(v);
            }
        }
        s.append('\n');
    }

    private static void appendLand(StringBuilder s, NoonGuides x) {
        s.append("many");
        for (int i = 0; i < 15; i++) {
            s.append(' ').append(x.many(i));
        }
        int roads = x.many(1);
        int people = x.many(2);
        for (int r = 0; r < roads; r++) {
            s.append("\nroad");
            for (int i = 0; i < 4; i++) {
                s.append(' ').append(x.road(r, i));
            }
        }
        for (int p = 0; p < people; p++) {
            s.append("\nperson");
            for (int i = 0; i < 6; i++) {
                s.append(' ').append(x.person(p, i));
            }
            s.append(" gone");
            for (int r = 0; r < roads; r++) {
                s.append(' ').append(x.gone(p, r));
            }
            s.append(" owes");
            for (int q = 0; q < people; q++) {
                s.append(' ').append(x.owes(p, q));
            }
        }
        s.append('\n');
    }
}
