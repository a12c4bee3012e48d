import java.util.ArrayList;
import java.util.List;
import java.util.Set;
import java.util.TreeSet;

/** Part 5 of the terms: what each STATUS is, which comes first, and what a refused call leaves. */
public final class Terms5Test {
    /** The calls that have no STATUS. */
    private static final Set<String> NONE_OF_THEIR_OWN =
            Set.of("status", "fault", "feed", "top", "bottom");
    private static final List<String> SEEN = new ArrayList<>();

    private Terms5Test() {
    }

    public static void main(String[] args) {
        zeroElse();
        someHaveNone();
        refusedTexts();
        aRefusedCallChangesNothing();
        anyArguments();
        Check.end("Terms5Test");
    }

    /** On a busy land: ann and cid are on the road to the hill, bob and dot at their places. */
    private static Check busy() {
        return Check.ring().days("wait 5;any;", 2).due(1, "mark").due(20, "lead", 2, 1, 1)
                .due(5, "passes", 20).due(20, "lead", 0, 4, 0).due(0, "passes", 15)
                .due(1, "tray", 0, 1, 6).due(1, "tray", 1, 1, 6).due(1, "tray", 2, 0, 2)
                .due(1, "write", 0, 3, 77).due(1, "clouds", 3, 2);
    }

    private static void ok(long want, String name, long... a) {
        SEEN.add(name);
        busy().refused(5, "many", 15).due(want, name, a);
    }

    /** "0 else", whatever was refused ahead - each call that has a STATUS */
    private static void zeroElse() {
        ok(1, "tray", 3, 0, 5);
        ok(1, "write", 0, 0, 7);
        ok(77, "read", 0, 3);
        ok(1, "pour", 0, 0, 1, 1, 5);
        ok(0, "land", 0);
        ok(0, "days", 0);
        ok(605, "many", 5);
        ok(30, "road", 2, 2);
        ok(3, "roadOf", 2, 3);
        ok(5, "person", 0, 4);
        ok(2, "gone", 3, 1);
        ok(20, "owes", 0, 2);
        ok(20, "net", 2);
        ok(4, "copyPlaces", 0);
        ok(0, "passes", 10);
        ok(20, "go", 1, 0);
        ok(1, "turn", 0);
        ok(1, "cloud", 1);
        ok(1, "plant", 1, 1);
        ok(1, "glasses", 0, 1);
        ok(1, "cure", 2, 1);
        ok(20, "settle", 0, 2);
        ok(1, "rule", 0, 1);
        ok(1, "glareAt", 600);
        ok(1, "can", 3, 1);
        ok(8, "guides", 2, 1);
        ok(0, "stuck");
        ok(15, "reach", 3);
        ok(355, "nextGlare", 0);
        ok(20, "soonest", 1, 0);
        ok(0, "soonestFirst", 1, 0);
        ok(1, "meet", 1, 3);
        ok(40, "meetIn", 3, 1);
        ok(0, "plants", 3, 3);
        ok(0, "plantSet", 3, 3);
        ok(2, "ways", 0, 0, 2, 2);
        ok(3, "pair", 0);
        ok(2, "pairs");
        ok(0, "pairsOwe");
        ok(2, "dearest", 0);
        ok(1, "clouds", 1, 1);
        ok(20, "lostIn", 10);
        ok(0, "lostBy", 10, 0, 1);
        ok(0, "bestFrom", 10);
        ok(365, "arrives", 0);
        ok(2, "live", 0);
        ok(1, "mean", 0, 1);
        ok(2, "mark");
        ok(0, "back");
        SEEN.add("lead");
        SEEN.add("lived");
        SEEN.add("soonestTwo");
        busy().due(1, "cloud", 1).due(1, "turn", 0).refused(8, "lived", 0).due(40, "lead", 0, 4, 2);
        busy().due(2, "live", 0).refused(5, "lived", 5).due(5, "lived", 1);
        busy().due(1, "turn", 0).refused(9, "soonestTwo", 0, 3, 1).due(20, "soonestTwo", 0, 2, 0);
        Set<String> all = new TreeSet<>(Calls.names());
        all.removeAll(NONE_OF_THEIR_OWN);
        Check.same("calls that can be told", new TreeSet<>(SEEN), all);
    }

    /** "status(), fault(), feed(), top(), bottom() have none." */
    private static void someHaveNone() {
        Check c = busy().refused(9, "turn", 1).tells(9, "status").tells(9, "status")
                .tells(0, "fault", 0).tells(-1, "fault", 1).tells(-1, "fault", 2)
                .tells(20, "feed", 0, 0, 0, 0, 0).tells(1, "top").tells(2, "bottom")
                .tells(9, "status").due(0, "many", 10).tells(0, "status");
        for (int i = 2; i <= 45; i++) {
            c.tells(20 * i, "feed", 0, 0, 0, 0, 0);
        }
        c.refused(1, "tray", 4, 0, 0).tells(-1, "feed", 1, 1, 1, 1, 1).tells(1, "status");
        for (int what : new int[] {-1, 2, 3, Lands.MOST, Lands.LEAST}) {
            c.tells(-1, "fault", what);
        }
    }

    /** "(but land(), days() with 10 the tape, and what fault() tells)" */
    private static void refusedTexts() {
        busy().faulty("land", "place a;place", 2, 13).tells(2, "fault", 0).tells(13, "fault", 1)
                .faulty("days", "wait 601;", 4, 5).tells(4, "fault", 0).tells(5, "fault", 1)
                .due(2, "live", 0).days("any;", 1).tells(0, "fault", 0).tells(-1, "fault", 1);
        // with 5 neither the tape nor what fault tells
        busy().faulty("land", "#", 1, 0).feed("place a;").refused(5, "land", -1)
                .refused(5, "land", 21).refused(5, "days", -1).refused(5, "days", 21)
                .refused(5, "land", Lands.MOST).refused(5, "days", Lands.LEAST)
                .tells(1, "fault", 0).tells(0, "fault", 1).due(0, "land", 8).due(1, "many", 0)
                .tells(0, "fault", 0);
    }

    /** "A call with another STATUS than 0 gives NONE, or false, and changes nothing but STATUS" -
     * refused() sees to that; here where most is there to be changed. */
    private static void aRefusedCallChangesNothing() {
        busy().refused(1, "tray", 4, 0, 1).refused(5, "tray", 0, 0, 61).refused(6, "tray", 0, 0, -1)
                .refused(4, "write", 0, 6, 1).refused(4, "pour", 0, 0, 1, 1, 6)
                .refused(11, "pour", 0, 0, 2, 0, 1).refused(4, "copyPlaces", 2)
                .refused(5, "passes", 1000).refused(9, "go", 0, 3).refused(9, "go", 1, 3)
                .refused(9, "lead", 0, 2, 0).refused(5, "lead", 1, 2, 0).refused(9, "lead", 1, 8, 0)
                .refused(9, "turn", 2).refused(9, "turn", 1).refused(9, "cloud", 0)
                .refused(9, "plant", 0, 1).refused(9, "glasses", 1, 1).refused(9, "glasses", 2, 1)
                .refused(9, "cure", 0, 1).refused(9, "cure", 2, 0).refused(9, "settle", 0, 0)
                .refused(5, "rule", 5, 5).refused(5, "clouds", 13, 1).refused(5, "lostBy", 9, 5, 5)
                .refused(5, "live", 10000).refused(5, "mean", 0, 21).refused(8, "lived", 0);
        busy().due(2, "live", 4).due(2, "mark").due(3, "mark").refused(7, "mark")
                .refused(5, "live", -1).refused(5, "lived", 5).refused(5, "mean", 9999, 2)
                .refused(8, "dearest", 1).refused(9, "arrives", 1).refused(9, "reach", 0)
                .refused(9, "soonest", 0, 1).refused(9, "soonestFirst", 1, 1)
                .refused(9, "soonestTwo", 0, 1, 1).refused(9, "meet", 0, 1)
                .refused(9, "plants", 1, 1).refused(9, "plantSet", 2, 1);
    }

    /** Any call with any arguments answers, and its STATUS is one of those that the document names. */
    private static void anyArguments() {
        int[] some = {Integer.MIN_VALUE, -2, -1, 0, 1, 2, 3, 4, 7, 8, 9, 12, 13, 31, 32, 33, 60,
            61, 255, 256, 999, 1000, 9999, 10000, 99999, 100000, Integer.MAX_VALUE - 1,
            Integer.MAX_VALUE};
        Draws draws = new Draws(77);
        for (String name : Calls.names()) {
            NoonGuides x = new NoonGuides();
            NoonGuides full = full();
            for (int i = 0; i < 400; i++) {
                long[] a = new long[Calls.arguments(name)];
                for (int j = 0; j < a.length; j++) {
                    a[j] = some[draws.by(some.length)];
                }
                answers(x, name, a);
                answers(full, name, a);
            }
        }
    }

    private static NoonGuides full() {
        NoonGuides x = new NoonGuides();
        String text = Lands.full();
        for (long[] five : Calls.feeds(text)) {
            Calls.on(x, "feed", five);
        }
        x.land(text.length());
        x.tray(0, 0, 60);
        x.tray(1, 0, 1);
        x.tray(2, 3, 60);
        x.lead(7, 66, 1);
        return x;
    }

    private static void answers(NoonGuides x, String name, long[] a) {
        try {
            long got = Calls.on(x, name, a);
            int why = x.status();
            Check.same(name + " told STATUS " + why,
                    NONE_OF_THEIR_OWN.contains(name) || StatusTest.mayTell(name, why), true);
            if (why != 0 && !NONE_OF_THEIR_OWN.contains(name)) {
                Check.same(name + " with STATUS " + why, got,
                        Calls.IS_BOOLEAN.contains(name) ? 0 : -1);
            }
        } catch (RuntimeException e) {
            Check.same(name + " threw " + e, true, false);
        }
    }
}
