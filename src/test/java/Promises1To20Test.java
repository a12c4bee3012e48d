/** Promises 1 to 20: what each call names as its edges, each STATUS that it can tell, and which of
 * two comes first. The index of a PLACE, ROAD or PERSON is looked at in IndexTest. */
public final class Promises1To20Test {
    private static final int MOST = Lands.MOST;
    private static final int LEAST = Lands.LEAST;

    private Promises1To20Test() {
    }

    public static void main(String[] args) {
        promise1NewObject();
        promises2To4();
        promise5Tray();
        promise6Write();
        promise7Read();
        promise8Pour();
        promise8PourOrder();
        promise9Feed();
        promise10Land();
        promise11Days();
        promise12Fault();
        promise13Many();
        promise13ManySets();
        promise14Road();
        promise15RoadOf();
        promise16Person();
        promise17Gone();
        promise18Owes();
        promise19Net();
        promise20CopyPlaces();
        Check.end("Promises1To20Test");
    }

    /** "TRAYS are MISSING, a LAND of no PLACES (GLARE 10 to 16, MINUTE 480, ROPE 9, HABIT 3, ODDS
     * 4), no DAYS, MARKS, an empty tape; STATUS 0, the FRACTION 0 by 1." */
    private static void promise1NewObject() {
        Check c = new Check().tells(0, "status").tells(0, "top").tells(1, "bottom")
                .tells(-1, "fault", 0).tells(-1, "fault", 1);
        int[] many = {0, 0, 0, 10, 16, 480, 9, 3, 4, 0, 0, 0, 0, 0, 0};
        for (int what = 0; what < many.length; what++) {
            c.due(many[what], "many", what);
        }
        for (int t = 0; t < 4; t++) {
            c.refused(3, "read", t, 0);
        }
        c.refused(8, "live", 0).refused(8, "mean", 0, 1).refused(8, "lived", 0).refused(8, "back")
                .refused(5, "land", 1).refused(5, "days", 1).due(0, "land", 0)
                .tells(20, "feed", 0, 0, 0, 0, 0);
        // what a land without people tells
        new Check().due(0, "stuck").due(0, "pairs").due(0, "pairsOwe").due(0, "lostIn", 999)
                .due(0, "lostBy", 999, 0, 24).due(0, "bestFrom", 999).due(0, "passes", 999)
                .due(1, "cloud", 1).due(1, "rule", 3, 4).due(1, "clouds", 1, 1).tells(1, "top")
                .tells(4, "bottom").due(1, "mark").due(0, "back").due(0, "days", 0)
                .due(0, "live", 0).due(1, "tray", 0, 0, 0).due(0, "copyPlaces", 0);
        // an object for itself
        Check.ring().due(0, "passes", 9);
        new Check().due(0, "many", 0).due(480, "many", 5);
    }

    /** "The STATUS of the latest call that has one." "The top of the FRACTION told latest." "Its
     * bottom, above 0." */
    private static void promises2To4() {
        new Check().refused(5, "many", 15).tells(5, "status").refused(8, "back").tells(8, "status")
                .tells(8, "status").due(0, "many", 0).tells(0, "status").due(1, "clouds", 3, 3)
                .tells(1, "top").tells(64, "bottom").tells(1, "top").refused(5, "clouds", 3, 13)
                .tells(1, "top").tells(64, "bottom").refused(8, "mean", 0, 1).tells(1, "top")
                .tells(64, "bottom").days("", 0).due(1, "mean", 0, 20).tells(0, "top")
                .tells(1, "bottom").due(1, "clouds", 2, 1).tells(7, "top").tells(16, "bottom")
                .land("odds 0;", 0).due(1, "mark").due(0, "back").tells(7, "top")
                .tells(16, "bottom");
    }

    /** "A TRAY is a row of so many numbers (at most 60; 5), all 0 (1; 5; 6)." */
    private static void promise5Tray() {
        for (int t = 0; t < 4; t++) {
            Check c = new Check().due(1, "tray", t, t, 60);
            for (int i = 0; i < 60; i++) {
                c.due(0, "read", t, i).due(1, "write", t, i, 5 + i);
            }
            c.refused(4, "read", t, 60).refused(5, "tray", t, t, 61).due(5, "read", t, 0)
                    .due(1, "tray", t, 3 - t, 60);
            for (int i = 0; i < 60; i++) {
                c.due(0, "read", t, i);
            }
            c.due(1, "write", t, 0, 9).due(1, "tray", t, 0, 1).due(0, "read", t, 0)
                    .refused(4, "read", t, 1).due(1, "tray", t, 0, 0).refused(4, "read", t, 0)
                    .due(1, "tray", t, 0, 60).due(0, "read", t, 0).due(0, "read", t, 59);
        }
        Check c = new Check();
        for (int no : new int[] {-1, 4, MOST, LEAST}) {
            c.refused(1, "tray", no, 0, 0).refused(1, "tray", 0, no, 0)
                    .refused(1, "tray", no, 0, 61).refused(1, "tray", 0, no, 61)
                    .refused(1, "tray", no, 0, -1).refused(1, "tray", 0, no, -1)
                    .refused(1, "tray", no, no, MOST);
        }
        c.refused(5, "tray", 0, 0, 61).refused(5, "tray", 3, 3, MOST).refused(6, "tray", 0, 0, -1)
                .refused(6, "tray", 3, 3, LEAST).refused(3, "read", 0, 0)
                .due(1, "tray", 0, 0, 0).due(1, "tray", 3, 3, 60);
    }

    /** "A number comes to a place of a TRAY (1; 3; 4)." */
    private static void promise6Write() {
        Check c = new Check().due(1, "tray", 0, 2, 3).due(1, "write", 0, 0, 7)
                .due(1, "write", 0, 2, 9).due(7, "read", 0, 0).due(0, "read", 0, 1)
                .due(9, "read", 0, 2).refused(4, "write", 0, 3, 1).refused(4, "write", 0, -1, 1)
                .refused(4, "write", 0, MOST, 1).refused(4, "write", 0, LEAST, 1)
                .refused(3, "write", 1, 0, 1).refused(3, "write", 1, -1, 1)
                .refused(3, "write", 3, MOST, 1).refused(1, "write", 4, -1, 1)
                .refused(1, "write", -1, 0, 1).refused(1, "write", MOST, 0, 1)
                .refused(1, "write", LEAST, 0, 1);
        c.due(1, "tray", 0, 0, 0).refused(4, "write", 0, 0, 1);
    }

    /** "The number in a place of a TRAY; STATUS tells NONE from -1 (1; 3; 4)." */
    private static void promise7Read() {
        new Check().due(1, "tray", 3, 3, 2).due(1, "write", 3, 1, -1).due(-1, "read", 3, 1)
                .due(0, "read", 3, 0).refused(4, "read", 3, 2).refused(4, "read", 3, -1)
                .refused(4, "read", 3, MOST).refused(4, "read", 3, LEAST).refused(3, "read", 2, 0)
                .refused(3, "read", 2, 60).refused(3, "read", 0, -1).refused(1, "read", 4, 0)
                .refused(1, "read", 4, -1).refused(1, "read", -1, 0).due(-1, "read", 3, 1);
    }

    private static Check filled() {
        Check c = new Check().due(1, "tray", 0, 1, 60).due(1, "tray", 1, 1, 3)
                .due(1, "tray", 2, 2, 60);
        for (int i = 0; i < 60; i++) {
            c.due(1, "write", 0, i, 100 + i);
        }
        return c;
    }

    /** "So many numbers from place i on of a TRAY come to place j on of another one, or the same,
     * as they were" */
    private static void promise8Pour() {
        filled().due(1, "pour", 0, 57, 1, 0, 3).due(157, "read", 1, 0).due(159, "read", 1, 2)
                .due(1, "pour", 0, 0, 1, 2, 1).due(158, "read", 1, 1).due(100, "read", 1, 2)
                .due(159, "read", 0, 59);
        Check c = filled().due(1, "pour", 0, 0, 0, 1, 59);
        for (int i = 0; i < 60; i++) {
            c.due(100 + Math.max(0, i - 1), "read", 0, i);
        }
        c = filled().due(1, "pour", 0, 1, 0, 0, 59);
        for (int i = 0; i < 60; i++) {
            c.due(100 + Math.min(59, i + 1), "read", 0, i);
        }
        filled().due(1, "pour", 0, 0, 0, 0, 60).due(100, "read", 0, 0).due(159, "read", 0, 59)
                .due(1, "pour", 0, 60, 1, 3, 0).due(1, "pour", 1, 3, 0, 60, 0)
                .due(1, "pour", 0, 60, 0, 60, 0).due(1, "pour", 0, 0, 1, 0, 0)
                .due(0, "read", 1, 0).due(1, "tray", 3, 1, 0).due(1, "pour", 3, 0, 0, 0, 0)
                .due(1, "pour", 0, 60, 3, 0, 0).due(1, "pour", 3, 0, 3, 0, 0)
                .refused(4, "pour", 3, 1, 0, 0, 0).refused(4, "pour", 0, 0, 3, 1, 0)
                .refused(4, "pour", 3, 0, 0, 0, 1);
        // with sign, and of 64 bits
        new Check().due(1, "tray", 0, 3, 2).due(1, "tray", 1, 3, 2)
                .due(1, "write", 0, 1, Long.MIN_VALUE).due(1, "pour", 0, 1, 1, 0, 1)
                .due(Long.MIN_VALUE, "read", 1, 0).due(0, "read", 1, 1);
    }

    /** "1, 3 (either), 11, 6, 4 (with 0 numbers, too, if a place is above how many there are),
     * asked in this order" */
    private static void promise8PourOrder() {
        Check c = filled();
        c.refused(4, "pour", 0, 61, 1, 0, 0).refused(4, "pour", 0, 0, 1, 4, 0)
                .refused(4, "pour", 0, 60, 1, 0, 1).refused(4, "pour", 0, 0, 1, 3, 1)
                .refused(4, "pour", 0, 58, 1, 0, 3).refused(4, "pour", 0, 0, 1, 0, 4)
                .refused(4, "pour", 0, 0, 1, 1, 3).refused(4, "pour", 0, -1, 1, 0, 0)
                .refused(4, "pour", 0, 0, 1, -1, 0).refused(4, "pour", 0, -1, 1, 0, 3)
                .refused(4, "pour", 0, MOST, 1, 0, 0).refused(4, "pour", 0, 0, 1, MOST, 0)
                .refused(4, "pour", 0, LEAST, 1, 0, 0).refused(4, "pour", 0, 0, 1, LEAST, 0)
                .refused(4, "pour", 0, 1, 0, 0, MOST).refused(4, "pour", 0, MOST, 0, MOST, MOST)
                .refused(4, "pour", 0, 0, 0, 1, 60);
        c.refused(6, "pour", 0, 0, 1, 0, -1).refused(6, "pour", 0, 61, 1, 0, -1)
                .refused(6, "pour", 0, 0, 1, -1, LEAST).refused(6, "pour", 0, 0, 0, 0, -1);
        c.refused(11, "pour", 0, 0, 2, 0, 1).refused(11, "pour", 2, 0, 0, 0, 1)
                .refused(11, "pour", 0, 0, 2, 0, -1).refused(11, "pour", 0, 61, 2, 0, 0)
                .refused(11, "pour", 0, 0, 2, -1, 0).refused(11, "pour", 0, 0, 2, 0, 0);
        c.refused(3, "pour", 3, 0, 0, 0, 1).refused(3, "pour", 0, 0, 3, 0, 1)
                .refused(3, "pour", 3, 0, 3, 0, 0).refused(3, "pour", 3, -1, 2, 0, -1)
                .refused(3, "pour", 0, 99, 3, 0, 1).refused(3, "pour", 2, 0, 3, 99, -1);
        for (int no : new int[] {-1, 4, MOST, LEAST}) {
            c.refused(1, "pour", no, 0, 0, 0, 1).refused(1, "pour", 0, 0, no, 0, 1)
                    .refused(1, "pour", no, 0, 3, 0, 1).refused(1, "pour", 3, 0, no, 0, 1)
                    .refused(1, "pour", no, -1, 2, 0, -1).refused(1, "pour", no, 0, no, 99, -1);
        }
    }

    /** "Twenty bytes come behind those on the tape, the highest of each int first: how many it has;
     * NONE if there would be more than 900." */
    private static void promise9Feed() {
        // "place abcd;clock 7; " and "rope 2;\nodds 3;     "
        new Check().tells(20, "feed", 0x706c6163, 0x65206162, 0x63643b63, 0x6c6f636b, 0x20373b20)
                .tells(40, "feed", 0x726f7065, 0x20323b0a, 0x6f646473, 0x20333b20, 0x20202020)
                .due(0, "land", 40).due(1, "many", 0).due(7, "many", 5).due(2, "many", 6)
                .due(3, "many", 8).tells(20, "feed", 0, 0, 0, 0, 0);
        // each of the twenty bytes comes to its place, with its highest bit
        for (int at = 0; at < 20; at++) {
            Check c = new Check();
            String text = Lands.blanks(at) + "\u00ff" + Lands.blanks(19 - at);
            c.faulty("land", text, 1, at).faulty("land", Lands.blanks(40) + text, 1, 40 + at)
                    .faulty("days", text, 1, at);
        }
        Check c = new Check();
        for (int i = 1; i <= 44; i++) {
            c.tells(20 * i, "feed", 0x20202020, 0x20202020, 0x20202020, 0x20202020, 0x20202020);
        }
        c.tells(900, "feed", 0x20202020, 0x20202020, 0x20202020, 0x20202020, 0x2020203b)
                .tells(-1, "feed", 1, 1, 1, 1, 1).tells(-1, "feed", 1, 1, 1, 1, 1)
                .refused(5, "land", 901).due(0, "land", 899)
                .tells(20, "feed", 0, 0, 0, 0, 0);
    }

    /** "The first n bytes of the tape (which is empty then, but for 5) are the LAND: how many
     * PEOPLE (5; 10: the old one stays)." */
    private static void promise10Land() {
        Check c = new Check().refused(5, "land", 1).refused(5, "land", -1).due(0, "land", 0)
                .feed("place a;blind x at a;").refused(5, "land", -1)
                .refused(5, "land", 41).refused(5, "land", MOST).refused(5, "land", LEAST);
        c.due(1, "land", 40).due(1, "many", 2).refused(5, "land", 1)
                .feed("place a;blind x at a;").due(1, "land", 21);
        // fewer bytes than there are: the others are gone, too
        c.feed("place a;place b;").due(0, "land", 8).due(1, "many", 0).refused(5, "land", 1)
                .feed("place a;place b;").due(0, "land", 0).due(0, "many", 0)
                .refused(5, "land", 1).tells(20, "feed", 0, 0, 0, 0, 0).due(0, "land", 0);
        c.land(Lands.full(), 8).faulty("land", "place a;#", 1, 8).due(8, "many", 2)
                .due(12, "many", 1).refused(5, "land", 1).land("", 0).due(0, "many", 2);
    }

    /** "Likewise the DAYS: how many STEPS (5: above 300, too; 10)." */
    private static void promise11Days() {
        Check c = Check.ring().refused(5, "days", 1).refused(5, "days", -1).due(0, "days", 0)
                .feed("any;any;").refused(5, "days", 21).refused(5, "days", MOST)
                .refused(5, "days", LEAST).due(2, "days", 8).refused(5, "days", 1)
                .due(2, "live", 0).feed("any;any;").due(1, "days", 4).due(1, "live", 0)
                .refused(5, "days", 1).feed("any;any;").due(0, "days", 0).due(0, "live", 0)
                .refused(5, "days", 1);
        c.days("any;any;any;", 3).faulty("days", "any;#", 1, 4).refused(5, "days", 1)
                .due(3, "live", 0).feed(Lands.blanks(900)).refused(5, "days", 301)
                .refused(5, "days", 900).refused(5, "days", 901).due(0, "days", 300)
                .refused(5, "days", 1).due(0, "live", 0);
        // the tape is the same for both
        c.feed("any;place a;").refused(5, "days", 21).due(1, "days", 4).due(4, "many", 0);
    }

    /** "Of the latest of these with STATUS 0 or 10, what 0: the FAULT (0 without one), 1: its place
     * (NONE without). NONE for others, and ahead of any." */
    private static void promise12Fault() {
        Check c = new Check();
        for (int what : new int[] {-1, 0, 1, 2, MOST, LEAST}) {
            c.tells(-1, "fault", what);
        }
        c.refused(5, "land", 1).tells(-1, "fault", 0).refused(5, "days", 1).tells(-1, "fault", 0)
                .due(0, "land", 0).tells(0, "fault", 0).tells(-1, "fault", 1)
                .faulty("land", "#", 1, 0).tells(1, "fault", 0).tells(0, "fault", 1);
        for (int what : new int[] {-1, 2, 3, MOST, LEAST}) {
            c.tells(-1, "fault", what);
        }
        c.refused(5, "land", 1).tells(1, "fault", 0).tells(0, "fault", 1).refused(5, "days", 1)
                .tells(1, "fault", 0).faulty("days", "any;end", 2, 4).tells(2, "fault", 0)
                .tells(4, "fault", 1).due(0, "land", 0).tells(0, "fault", 0).tells(-1, "fault", 1)
                .faulty("days", "loop 0;", 4, 5).due(0, "days", 0).tells(0, "fault", 0)
                .tells(-1, "fault", 1).faulty("land", Lands.blanks(899) + "#", 1, 899)
                .tells(899, "fault", 1);
        // a MARK keeps nothing of it
        c.due(1, "mark").days("", 0).due(0, "back").tells(0, "fault", 0).tells(-1, "fault", 1);
    }

    /** "PLACES (what 0), ROADS (1), PEOPLE (2); FROM (3), TILL (4), the MINUTE (5), ROPE (6), HABIT
     * (7), ODDS (8); 1 if there is GLARE now, else 0 (9), if it is CLOUDY (10)" */
    private static void promise13Many() {
        Check c = new Check().land("glare 7 to 9;clock 419;rope 5;habit 6;odds 11;place a;"
                + "place b;place c;road a c minutes 8;blind x at a;blind y at a;blind z at a;"
                + "sighted s at a;", 4);
        int[] many = {3, 1, 4, 7, 9, 419, 5, 6, 11, 0, 0, 7, 0, 0, 0};
        for (int what = 0; what < many.length; what++) {
            c.due(many[what], "many", what);
        }
        for (int no : new int[] {-1, 15, 16, MOST, LEAST}) {
            c.refused(5, "many", no);
        }
        c.due(0, "passes", 1).due(1, "many", 9).due(420, "many", 5).due(1, "cloud", 1)
                .due(0, "many", 9).due(1, "many", 10).due(1, "cloud", 0).due(1, "many", 9)
                .due(0, "many", 10).due(1, "rule", 8, 24).due(0, "many", 9).due(8, "many", 3)
                .due(24, "many", 4);
        new Check().land(Lands.full(), 8).due(8, "many", 0).due(12, "many", 1).due(8, "many", 2);
    }

    /** "sets of PEOPLE (1 for PERSON 0 ..) who are BLIND (11), on a ROAD (12), LED there (13); LOST
     * MINUTES of all together (14) (5)" */
    private static void promise13ManySets() {
        Check c = new Check().land("glare 0 to 1;" + Lands.full(), 8).due(51, "many", 11)
                .due(0, "many", 12).due(0, "many", 13);
        // w leads v and s where it smells, y goes there by himself
        c.due(1, "lead", 0, 132, 1).due(1, "go", 4, 1).due(149, "many", 12).due(132, "many", 13)
                .due(149, "passes", 1).due(0, "many", 12).due(0, "many", 13).due(1, "lead", 4, 1, 2)
                .due(17, "many", 12).due(1, "many", 13).due(0, "many", 14);
        c.due(1, "plant", 5, 0).due(0, "passes", 7).due(14, "many", 14).due(1, "cure", 4, 1)
                .due(35, "many", 11).due(0, "passes", 3).due(20, "many", 14)
                .due(1, "cure", 7, 0).due(163, "many", 11);
        // all eight on a road, all but one led
        new Check().land(Lands.full(), 8).due(1, "lead", 3, 247, 1).due(255, "many", 12)
                .due(247, "many", 13).due(0, "stuck").due(255, "passes", 1).due(0, "many", 12);
    }

    /** "Of a ROAD, what 0, 1: its PLACES as told, 2: MINUTES, 3: 1 if it SMELLS, else 0 (2; 5)." */
    private static void promise14Road() {
        Check c = new Check().land("place a;place b;place c;road c b minutes 99 smells;"
                + "road a c minutes 1;", 0);
        int[][] roads = {{2, 1, 99, 1}, {0, 2, 1, 0}};
        for (int r = 0; r < 2; r++) {
            for (int what = 0; what < 4; what++) {
                c.due(roads[r][what], "road", r, what);
            }
            for (int no : new int[] {-1, 4, 5, MOST, LEAST}) {
                c.refused(5, "road", r, no);
            }
        }
        c.refused(2, "road", 2, 0).refused(2, "road", -1, 0).refused(2, "road", 2, 4)
                .refused(2, "road", -1, -1).due(1, "plant", 1, 1).due(1, "road", 1, 3)
                .due(1, "plant", 0, 0).due(0, "road", 0, 3);
        new Check().refused(2, "road", 0, 0).refused(2, "road", 0, 4);
    }

    /** "The ROAD between two PLACES (2; 8: none, one and itself, too)." */
    private static void promise15RoadOf() {
        Check c = new Check().land(Lands.twelveRoads(), 0);
        int[][] ends = {{6, 7}, {5, 6}, {4, 5}, {3, 4}, {2, 3}, {1, 2}, {0, 1}, {0, 2}, {0, 3},
            {0, 4}, {0, 5}, {7, 0}};
        for (int a = 0; a < 8; a++) {
            for (int b = 0; b < 8; b++) {
                int road = -1;
                for (int r = 0; r < 12; r++) {
                    boolean is = ends[r][0] == a && ends[r][1] == b
                            || ends[r][0] == b && ends[r][1] == a;
                    road = is ? r : road;
                }
                if (road < 0) {
                    c.refused(8, "roadOf", a, b);
                } else {
                    c.due(road, "roadOf", a, b);
                }
            }
        }
        c.refused(2, "roadOf", 8, 8).refused(2, "roadOf", -1, -1).refused(2, "roadOf", 8, 0)
                .refused(2, "roadOf", 0, 8);
    }

    /** "Of a PERSON, what 0: the PLACE where he is (8: on a ROAD), 1: that to which he goes (8: AT
     * a PLACE), 2: MINUTES LEFT (0: AT a PLACE), 3: who LEADS him (8: nobody), 4: LOST MINUTES, 5:
     * 1 with GLASSES, else 0 (2; 5)." */
    private static void promise16Person() {
        Check c = Check.ring().due(0, "person", 0, 0).refused(8, "person", 0, 1)
                .due(0, "person", 0, 2).refused(8, "person", 0, 3).due(0, "person", 0, 4)
                .due(0, "person", 0, 5).due(1, "person", 1, 5).due(2, "person", 3, 0);
        for (int no : new int[] {-1, 6, 7, MOST, LEAST}) {
            c.refused(5, "person", 0, no).refused(2, "person", 4, no).refused(2, "person", -1, no);
        }
        c.due(0, "passes", 10).due(30, "lead", 0, 4, 3).due(0, "passes", 25)
                .refused(8, "person", 0, 0).due(3, "person", 0, 1).due(10, "person", 0, 2)
                .refused(8, "person", 0, 3).due(5, "person", 0, 4).refused(8, "person", 2, 0)
                .due(3, "person", 2, 1).due(10, "person", 2, 2).due(0, "person", 2, 3)
                .due(5, "person", 2, 4).due(1, "glasses", 0, 1).due(1, "person", 0, 5);
        c.due(5, "passes", 10).due(3, "person", 0, 0).refused(8, "person", 0, 1)
                .due(0, "person", 0, 2).refused(8, "person", 2, 3).due(5, "person", 2, 4)
                .due(0, "person", 2, 5).refused(5, "person", 2, 6);
    }

    /** "How often a PERSON has gone a ROAD (2)." */
    private static void promise17Gone() {
        Check c = Check.ring().due(2, "gone", 3, 1).due(0, "gone", 3, 0).due(0, "gone", 3, 2)
                .due(0, "gone", 2, 1).due(20, "go", 2, 1).due(0, "gone", 2, 0).due(0, "passes", 19)
                .due(0, "gone", 2, 0).due(4, "passes", 1).due(1, "gone", 2, 0).due(0, "gone", 2, 1)
                .due(40, "go", 3, 1).due(8, "passes", 40).due(3, "gone", 3, 1);
        c.refused(2, "gone", 4, 0).refused(2, "gone", 0, 4).refused(2, "gone", 4, 4);
    }

    /** "What one OWES another one; STATUS tells NONE from -1 (2; 9: one and himself)." */
    private static void promise18Owes() {
        Check c = new Check().land("clock 0;place a;place b;road a b minutes 1;sighted s at a;"
                + "blind x at a;", 2).due(0, "owes", 0, 1).due(1, "lead", 0, 2, 1)
                .due(3, "passes", 1).due(-1, "owes", 0, 1).due(1, "owes", 1, 0)
                .refused(9, "owes", 0, 0).refused(9, "owes", 1, 1).refused(2, "owes", 2, 2)
                .refused(2, "owes", 0, 2).refused(2, "owes", 2, 0).refused(2, "owes", -1, -1);
        c.due(-1, "owes", 0, 1).due(-1, "net", 1).due(1, "net", 0);
    }

    /** "What all others OWE one, together; STATUS tells NONE from -1 (2)." */
    private static void promise19Net() {
        Check c = new Check().land(Lands.full(), 8);
        for (int p = 0; p < 8; p++) {
            c.due(0, "net", p);
        }
        // w and x are led by v by the road of 99 minutes, then z leads all others and v back
        c.due(99, "lead", 7, 3, 7).due(131, "passes", 99).due(198, "net", 7).due(-99, "net", 0)
                .due(-99, "net", 1).due(0, "net", 2).due(1, "lead", 5, 92, 1).due(124, "passes", 1)
                .due(4, "net", 5).due(-1, "net", 2).due(-1, "net", 6).due(99, "settle", 0, 7)
                .due(99, "net", 7).due(0, "net", 0).due(-99, "net", 1);
        c.refused(2, "net", 8).refused(2, "net", -1);
    }

    /** "Where PEOPLE are comes to a TRAY, by numbers (-1: on a ROAD): how many (1; 3; 4)." */
    private static void promise20CopyPlaces() {
        for (int sort = 0; sort < 4; sort++) {
            Check c = new Check().land(Lands.full(), 8).due(99, "go", 7, 7).due(128, "passes", 99)
                    .due(1, "lead", 2, 8, 1).due(1, "tray", sort, sort, 8)
                    .due(8, "copyPlaces", sort);
            int[] at = {0, 0, -1, -1, 0, 0, 0, 7};
            for (int p = 0; p < 8; p++) {
                c.due(at[p], "read", sort, p);
            }
            c.due(1, "tray", sort, sort, 7).due(1, "write", sort, 0, 5)
                    .refused(4, "copyPlaces", sort).due(1, "tray", sort, sort, 9)
                    .due(1, "write", sort, 8, 5).due(8, "copyPlaces", sort)
                    .due(5, "read", sort, 8).due(7, "read", sort, 7);
        }
        Check c = Check.ring().refused(3, "copyPlaces", 0).refused(3, "copyPlaces", 3)
                .refused(1, "copyPlaces", 4).refused(1, "copyPlaces", -1)
                .refused(1, "copyPlaces", MOST).refused(1, "copyPlaces", LEAST)
                .due(1, "tray", 0, 0, 3).refused(4, "copyPlaces", 0).due(1, "tray", 0, 0, 4)
                .due(4, "copyPlaces", 0).due(0, "passes", 9).due(20, "go", 0, 1)
                .due(1, "passes", 20).due(4, "copyPlaces", 0).due(1, "read", 0, 0)
                .due(2, "read", 0, 3);
        c.land("", 0).due(1, "tray", 0, 0, 0).due(0, "copyPlaces", 0).refused(3, "copyPlaces", 1);
    }
}
