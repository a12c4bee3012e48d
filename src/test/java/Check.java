import java.util.ArrayList;
import java.util.Arrays;
import java.util.List;

/** Calls on one object with the answers that are due; counts what is wrong, and tells it. */
final class Check {
    /** Four places in a ring, four people; town 0, well 1, mine 2, hill 3; ann, bob, cid, dot. */
    static final String RING = "glare 10 to 16;clock 570;rope 2;habit 2;odds 8;"
            + "place town;place well;place mine;place hill;"
            + "road town well minutes 20 smells;road well mine minutes 40;"
            + "road town hill minutes 30;road hill mine minutes 15 smells;"
            + "sighted ann at town;sighted bob at well glasses;"
            + "blind cid at town;blind dot at mine;knows dot well mine;";

    private static int wrong;
    private static int asked;
    private final List<String> names = new ArrayList<>();
    private final List<long[]> arguments = new ArrayList<>();
    private final NoonGuides x = new NoonGuides();

    static Check ring() {
        Check c = new Check();
        c.land(RING, 4);
        return c;
    }

    /** Says how it went, and ends the test. */
    static void end(String test) {
        System.out.println(test + ": " + (asked - wrong) + " as due, " + wrong + " not");
        if (wrong != 0 || asked == 0) {
            System.exit(1);
        }
    }

    static void same(String what, Object got, Object want) {
        asked++;
        if (!String.valueOf(got).equals(String.valueOf(want))) {
            wrong++;
            StackTraceElement[] stack = Thread.currentThread().getStackTrace();
            StringBuilder where = new StringBuilder();
            for (StackTraceElement e : stack) {
                if (e.getClassName().endsWith("Test")) {
                    where.append(' ').append(e.getFileName()).append(':').append(e.getLineNumber());
                }
            }
            System.out.println(what + " answered " + got + ", due is " + want + where);
        }
    }

    private static String line(String name, long[] a) {
        return name + Arrays.toString(a);
    }

    private long ask(String name, long... a) {
        names.add(name);
        arguments.add(a);
        return Calls.on(x, name, a);
    }

    /** A call that is done: its answer (booleans 1 and 0), and STATUS 0. */
    Check due(long want, String name, long... a) {
        same(line(name, a), ask(name, a), want);
        same(line(name, a) + " status", x.status(), 0);
        return this;
    }

    /** A call without a STATUS of its own. */
    Check tells(long want, String name, long... a) {
        int before = x.status();
        same(line(name, a), ask(name, a), want);
        same(line(name, a) + " left status", x.status(), before);
        return this;
    }

    /** A call that is refused: NONE or false, its STATUS, and all else as if it had not been. */
    Check refused(int status, String name, long... a) {
        NoonGuides without = again();
        NoonGuides with = again();
        Calls.on(with, name, a);
        same(line(name, a) + " changed something", Snapshot.of(with), Snapshot.of(without));
        same(line(name, a), ask(name, a), Calls.IS_BOOLEAN.contains(name) ? 0 : -1);
        same(line(name, a) + " status", x.status(), status);
        return this;
    }

    /** A text that has a FAULT: the tape is empty behind it, and the old one stays. */
    Check faulty(String name, String text, int kind, int place) {
        return faultyPart(name, text, text.length(), kind, place);
    }

    /** The first n bytes of a text alone are what is told. */
    Check faultyPart(String name, String text, int n, int kind, int place) {
        feed(text);
        String ahead = Snapshot.withoutTape(again());
        same(name + " of " + text, ask(name, n), -1);
        same(name + " of " + text + " status", x.status(), 10);
        same(text + " fault", ask("fault", 0) + " at " + ask("fault", 1), kind + " at " + place);
        same(text + " changed something", Snapshot.withoutTape(again()), ahead);
        same(text + " left a tape", again().feed(0, 0, 0, 0, 0), 20);
        return this;
    }

    Check feed(String text) {
        for (long[] five : Calls.feeds(text)) {
            ask("feed", five);
        }
        return this;
    }

    Check land(String text, int people) {
        return feed(text).due(people, "land", text.length());
    }

    Check days(String text, int steps) {
        return feed(text).due(steps, "days", text.length());
    }

    /** The LAND with all that became of it, as a text. */
    String land() {
        return Snapshot.ofLand(again());
    }

    /** Another object on which all was done that was done on this one. */
    NoonGuides made() {
        return again();
    }

    /** A new object on which all was done that was done on this one. */
    private NoonGuides again() {
        NoonGuides other = new NoonGuides();
        for (int i = 0; i < names.size(); i++) {
            Calls.on(other, names.get(i), arguments.get(i));
        }
        return other;
    }
}
