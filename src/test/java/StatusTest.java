import java.util.Arrays;
import java.util.Set;
import java.util.TreeSet;

/** "STATUS of a call is the first of these that holds": which STATUS each call tells - those that
 * the document names with it, each of them, and no other - and which of two comes first. */
public final class StatusTest {
    /** The numbers in brackets behind each promise. */
    private static final String[] TOLD = {"tray 1 5 6", "write 1 3 4", "read 1 3 4",
        "pour 1 3 4 6 11", "land 5 10", "days 5 10", "many 5", "road 2 5", "roadOf 2 8",
        "person 2 5 8", "gone 2", "owes 2 9", "net 2", "copyPlaces 1 3 4", "passes 5 7", "go 2 9",
        "lead 2 5 9", "turn 2 9", "cloud 9", "plant 2 9", "glasses 2 9", "cure 2 9", "settle 2 9",
        "rule 5", "glareAt 5", "can 2", "guides 2 9", "stuck", "reach 2 9", "nextGlare 5 8",
        "soonest 2 8 9", "soonestFirst 2 8 9", "soonestTwo 2 8 9", "meet 2 8 9", "meetIn 2 8 9",
        "plants 2 8 9", "plantSet 2 8 9", "ways 2 5", "pair 2 8", "pairs", "pairsOwe",
        "dearest 2 8", "clouds 5", "lostIn 5", "lostBy 5", "bestFrom 5", "arrives 2 8 9",
        "live 5 8", "lived 5 8", "mean 5 8", "mark 7", "back 8"};
    private static final Set<String> SEEN = new TreeSet<>();

    private StatusTest() {
    }

    public static void main(String[] args) {
        oneNoSuchTray();
        twoNoSuchOne();
        threeMissing();
        fourNotInTheTray();
        fiveCantBe();
        sixBelowZero();
        sevenOneTooMany();
        eightThereIsNone();
        nineItCantBe();
        tenFaults();
        elevenUnlikeSorts();
        eachOfThem();
        firstThatHolds();
        Check.end("StatusTest");
    }

    /** If the document names a STATUS with a call; 0 goes with each. */
    static boolean mayTell(String call, int status) {
        for (String line : TOLD) {
            if (line.equals(call) || line.startsWith(call + " ")) {
                return status == 0 || (line + " ").contains(" " + status + " ");
            }
        }
        return false;
    }

    private static void due(Check c, int status, String call, long... a) {
        SEEN.add(call + " " + status);
        c.refused(status, call, a);
    }

    /** ann and cid are on the road from the well to the town, bob is at the well, dot at the mine;
     * the first two TRAYS are of one sort, the fourth is MISSING. */
    private static Check busy() {
        return Check.ring().days("wait 5;any;", 2).due(1, "mark").due(20, "lead", 2, 1, 1)
                .due(5, "passes", 20).due(20, "lead", 0, 4, 0).due(0, "passes", 15)
                .due(1, "tray", 0, 1, 6).due(1, "tray", 1, 1, 6).due(1, "tray", 2, 0, 2);
    }

    /** c is without a road; s and x are at a, y is at c. */
    private static Check apart() {
        return new Check().land("clock 0;place a;place b;place c;road a b minutes 5;"
                + "sighted s at a;blind x at a;blind y at c;", 3);
    }

    /** "1 no such TRAY (or sort)." */
    private static void oneNoSuchTray() {
        Check c = busy();
        for (long no : new long[] {-1, 4}) {
            due(c, 1, "tray", no, 0, 1);
            due(c, 1, "tray", 0, no, 1);
            due(c, 1, "write", no, 0, 1);
            due(c, 1, "read", no, 0);
            due(c, 1, "pour", no, 0, 0, 0, 1);
            due(c, 1, "pour", 0, 0, no, 0, 1);
            due(c, 1, "copyPlaces", no);
        }
    }

    /** "2 no such PLACE, ROAD, PERSON." */
    private static void twoNoSuchOne() {
        Check c = busy();
        for (String line : TOLD) {
            String call = line.split(" ")[0];
            if (mayTell(call, 2)) {
                long[] a = new long[Calls.arguments(call)];
                Arrays.fill(a, 99);
                due(c, 2, call, a);
                Arrays.fill(a, -1);
                due(c, 2, call, a);
            }
        }
    }

    /** "3 the TRAY is MISSING." */
    private static void threeMissing() {
        Check c = busy();
        due(c, 3, "write", 3, 0, 1);
        due(c, 3, "read", 3, 0);
        due(c, 3, "pour", 3, 0, 0, 0, 1);
        due(c, 3, "pour", 0, 0, 3, 0, 1);
        due(c, 3, "copyPlaces", 3);
    }

    /** "4 a place that the TRAY has not, or too few numbers." */
    private static void fourNotInTheTray() {
        Check c = busy();
        due(c, 4, "write", 0, 6, 1);
        due(c, 4, "read", 0, 6);
        due(c, 4, "read", 0, -1);
        due(c, 4, "pour", 0, 0, 1, 1, 6);
        due(c, 4, "pour", 0, 1, 1, 0, 6);
        due(c, 4, "copyPlaces", 2);
    }

    /** "5 a number that can't be (a set with what there is none of, too)." */
    private static void fiveCantBe() {
        Check c = busy();
        due(c, 5, "tray", 0, 0, 61);
        due(c, 5, "land", 1);
        due(c, 5, "days", 1);
        due(c, 5, "many", 15);
        due(c, 5, "road", 0, 4);
        due(c, 5, "person", 0, 6);
        due(c, 5, "passes", 1000);
        due(c, 5, "lead", 1, 16, 0);
        due(c, 5, "lead", 1, 24, 0);
        due(c, 5, "rule", 16, 10);
        due(c, 5, "glareAt", 100000);
        due(c, 5, "nextGlare", 2);
        due(c, 5, "ways", 0, 0, 0, 11);
        due(c, 5, "clouds", 13, 0);
        due(c, 5, "lostIn", 1000);
        due(c, 5, "lostBy", 10, 16, 10);
        due(c, 5, "bestFrom", 1000);
        due(c, 5, "live", 10000);
        due(c, 5, "lived", 5);
        due(c, 5, "mean", 0, 21);
    }

    /** "6 below 0 (a TRAY's length)." */
    private static void sixBelowZero() {
        due(busy(), 6, "tray", 0, 0, -1);
        due(busy(), 6, "pour", 0, 0, 1, 0, -1);
    }

    /** "7 one too many." */
    private static void sevenOneTooMany() {
        due(busy().due(2, "mark").due(3, "mark"), 7, "mark");
        due(atTheLastMinute(), 7, "passes", 1);
    }

    private static Check atTheLastMinute() {
        Check c = new Check().days("wait 600;wait 600;wait 600;wait 600;wait 600;", 5);
        for (int i = 0; i < 33; i++) {
            c.due(5, "live", 0);
        }
        return c.due(0, "passes", 519).due(99999, "many", 5);
    }

    /** "8 there is none." */
    private static void eightThereIsNone() {
        Check c = apart();
        due(c, 8, "roadOf", 0, 2);
        due(c, 8, "person", 0, 1);
        due(c, 8, "person", 0, 3);
        due(busy(), 8, "person", 0, 0);
        due(apart().due(1, "cloud", 1), 8, "nextGlare", 1);
        due(c, 8, "soonest", 0, 2);
        due(c, 8, "soonestFirst", 0, 2);
        due(c, 8, "soonestTwo", 0, 1, 2);
        due(c, 8, "meet", 0, 2);
        due(c, 8, "meetIn", 0, 2);
        due(c, 8, "plants", 1, 2);
        due(c, 8, "plantSet", 1, 2);
        due(c, 8, "pair", 2);
        due(c, 8, "dearest", 0);
        due(c, 8, "live", 0);
        due(c, 8, "lived", 0);
        due(c, 8, "mean", 0, 1);
        due(c, 8, "back");
        due(apart().due(5, "go", 0, 1).due(1, "rule", 0, 24), 8, "arrives", 0);
    }

    /** "9 it can't be." */
    private static void nineItCantBe() {
        Check c = busy();
        due(c, 9, "owes", 0, 0);
        due(c, 9, "go", 0, 1);
        due(c, 9, "lead", 1, 8, 0);
        due(c, 9, "turn", 2);
        due(c, 9, "cloud", 0);
        due(c, 9, "plant", 0, 1);
        due(c, 9, "glasses", 2, 1);
        due(c, 9, "cure", 0, 1);
        due(c, 9, "settle", 3, 3);
        due(c, 9, "guides", 0, 2);
        due(c, 9, "reach", 0);
        due(c, 9, "soonest", 0, 1);
        due(c, 9, "soonestFirst", 1, 1);
        due(c, 9, "soonestTwo", 1, 3, 0);
        due(c, 9, "meet", 0, 1);
        due(c, 9, "meetIn", 1, 1);
        due(c, 9, "plants", 1, 0);
        due(c, 9, "plantSet", 2, 0);
        due(c, 9, "arrives", 1);
    }

    /** "10 a FAULT." */
    private static void tenFaults() {
        SEEN.add("land 10");
        SEEN.add("days 10");
        busy().faulty("land", "place", 2, 5).faulty("days", "any", 2, 3);
    }

    /** "11 TRAYS of unlike sorts." */
    private static void elevenUnlikeSorts() {
        due(busy(), 11, "pour", 0, 0, 2, 0, 1);
        due(busy(), 11, "pour", 2, 0, 1, 0, 1);
    }

    /** Above, each call told each STATUS that the document names with it. */
    private static void eachOfThem() {
        Set<String> all = new TreeSet<>();
        Set<String> calls = new TreeSet<>(Set.of("status", "top", "bottom", "feed", "fault"));
        for (String line : TOLD) {
            String[] parts = line.split(" ");
            calls.add(parts[0]);
            for (int i = 1; i < parts.length; i++) {
                all.add(parts[0] + " " + parts[i]);
            }
        }
        Check.same("each STATUS of each call", SEEN, all);
        Check.same("all calls", calls, new TreeSet<>(Calls.names()));
    }

    /** "the first of these that holds", of two and more that hold */
    private static void firstThatHolds() {
        busy().refused(1, "tray", 4, 0, 61).refused(1, "tray", 0, 4, -1).refused(1, "write", 4, 60, 0)
                .refused(1, "read", -1, -1).refused(3, "write", 3, -1, 0).refused(3, "read", 3, 60)
                .refused(3, "copyPlaces", 3).refused(2, "road", 9, 9).refused(2, "person", 9, 9)
                .refused(2, "owes", 9, 9).refused(2, "settle", 9, 9).refused(2, "lead", 0, 0, 9)
                .refused(5, "lead", 0, 0, 0).refused(5, "lead", 3, 24, 0)
                .refused(2, "go", 0, 9).refused(2, "guides", 9, 9)
                .refused(2, "soonest", 0, 9).refused(2, "soonestFirst", 0, 9)
                .refused(2, "soonestTwo", 0, 0, 9).refused(2, "meet", 9, 9)
                .refused(2, "meetIn", 9, 9).refused(2, "plants", 0, 9)
                .refused(2, "plantSet", 1, 9).refused(2, "ways", 0, 0, 9, 11)
                .refused(5, "lived", 5).due(1, "cloud", 1).refused(5, "nextGlare", 2);
        // without DAYS, or at the last minute, a number that can't be comes first
        apart().refused(5, "live", -1).refused(5, "mean", -1, 1).refused(5, "mean", 9999, 2);
        atTheLastMinute().refused(5, "passes", 1000).refused(5, "passes", 0);
        // pour alone asks in an order of its own: 11 and 6 ahead of 4
        busy().refused(11, "pour", 0, 9, 2, 9, -1).refused(6, "pour", 0, 9, 1, 9, -1)
                .refused(3, "pour", 3, 9, 2, 9, -1).refused(1, "pour", 3, 9, 4, 9, -1);
    }
}
