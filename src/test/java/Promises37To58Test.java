/** Promises 37 to 58: ways, pairs, odds, other hours, DAYS, MARKS. Edges, each STATUS, and which of
 * two comes first; the index of a PLACE, ROAD or PERSON is looked at in IndexTest. */
public final class Promises37To58Test {
    private static final int MOST = Lands.MOST;
    private static final int LEAST = Lands.LEAST;
    /** a and b have a road, c has none: s sighted, x and y blind at a, z blind at c. */
    private static final String APART = "place a;place b;place c;road a b minutes 20;"
            + "sighted s at a;blind x at a;blind y at a;blind z at c;";

    private Promises37To58Test() {
    }

    public static void main(String[] args) {
        promise37Soonest();
        promise38SoonestFirst();
        promise38OfSeveralTheFirst();
        promise39SoonestTwo();
        promises40And41Meet();
        promises42And43Plants();
        promise44Ways();
        promise45Pair();
        promises46And47Pairs();
        promise48Dearest();
        promise49Clouds();
        promise50LostIn();
        promise51LostBy();
        promise52BestFrom();
        promise52CutTo24();
        promise53Arrives();
        promise54Live();
        promise55Lived();
        promise56Mean();
        promise57Mark();
        promise58Back();
        promise58AllIsTakenBack();
        Check.end("Promises37To58Test");
    }

    private static Check apart(int clock) {
        return new Check().land("clock " + clock + ";" + APART, 4);
    }

    /** "SOONEST: MINUTES (0: he is there) (2; 9: on a ROAD; 8: never)." */
    private static void promise37Soonest() {
        Check c = apart(0).due(0, "soonest", 0, 0).due(20, "soonest", 0, 1)
                .refused(8, "soonest", 0, 2).refused(8, "soonest", 1, 1).due(0, "soonest", 3, 2)
                .refused(8, "soonest", 3, 0).refused(2, "soonest", 4, 3)
                .refused(2, "soonest", 4, 0).refused(2, "soonest", 0, 3);
        // on a road: 9, to wherever, and though it be never
        c.due(20, "lead", 0, 2, 1).refused(9, "soonest", 0, 0).refused(9, "soonest", 0, 1)
                .refused(9, "soonest", 0, 2).refused(9, "soonest", 1, 1)
                .refused(9, "soonest", 1, 2).refused(2, "soonest", 0, 3).due(1, "cure", 0, 0)
                .refused(9, "soonest", 0, 1);
    }

    /** "The PLACE to which he goes first by that, of several the first (2; 9: on a ROAD, there
     * already; 8)." */
    private static void promise38SoonestFirst() {
        Check c = apart(700).due(1, "soonestFirst", 0, 1).refused(9, "soonestFirst", 0, 0)
                .refused(8, "soonestFirst", 0, 2).refused(8, "soonestFirst", 1, 1)
                .refused(9, "soonestFirst", 1, 0).refused(9, "soonestFirst", 3, 2)
                .refused(8, "soonestFirst", 3, 0).refused(2, "soonestFirst", 4, 3)
                .refused(2, "soonestFirst", 0, 3).refused(2, "soonestFirst", 4, 0)
                .due(1, "rule", 0, 24).refused(8, "soonestFirst", 0, 1)
                .refused(9, "soonestFirst", 0, 0);
        c.due(1, "cloud", 1).due(20, "lead", 0, 2, 1).refused(9, "soonestFirst", 0, 0)
                .refused(9, "soonestFirst", 0, 1).refused(9, "soonestFirst", 0, 2)
                .refused(9, "soonestFirst", 1, 2);
    }

    /** "of several the first": by their numbers, not by those of the roads */
    private static void promise38OfSeveralTheFirst() {
        String text = "clock 590;" + Lands.places(6) + "road f e minutes 4;road f d minutes 3;"
                + "road f c minutes 5;road e a minutes 6;road d a minutes 7;road c a minutes 5;"
                + "road f b minutes 10;sighted s at f;";
        new Check().land(text, 1).due(10, "soonest", 0, 0).due(2, "soonestFirst", 0, 0)
                .due(1, "soonestFirst", 0, 1).land(text + "road b a minutes 1;", 1)
                .due(10, "soonest", 0, 0).due(2, "soonestFirst", 0, 0);
        // to where a road leads as well, and the way round is as long
        new Check().land("clock 0;" + Lands.places(3) + "road a c minutes 5;road a b minutes 2;"
                + "road b c minutes 3;sighted s at a;", 1).due(1, "soonestFirst", 0, 2)
                .land("clock 0;" + Lands.places(3) + "road a b minutes 5;road a c minutes 2;"
                + "road b c minutes 3;sighted s at a;", 1).due(1, "soonestFirst", 0, 1);
        // not back to where he is
        new Check().land("clock 0;" + Lands.places(4) + "road b a minutes 1;road b c minutes 1;"
                + "road c d minutes 1;sighted s at b;", 1).due(2, "soonestFirst", 0, 3);
    }

    /** "SOONEST by two (2; 9: one and himself, on a ROAD, not AT one PLACE; 8)." */
    private static void promise39SoonestTwo() {
        Check c = apart(0).due(20, "soonestTwo", 0, 1, 1).due(20, "soonestTwo", 1, 0, 1)
                .due(0, "soonestTwo", 0, 1, 0).refused(8, "soonestTwo", 0, 1, 2)
                .refused(8, "soonestTwo", 1, 2, 1).due(0, "soonestTwo", 1, 2, 0)
                .refused(9, "soonestTwo", 0, 0, 1).refused(9, "soonestTwo", 0, 0, 2)
                .refused(9, "soonestTwo", 0, 3, 1).refused(9, "soonestTwo", 3, 0, 2)
                .refused(9, "soonestTwo", 0, 3, 0).refused(9, "soonestTwo", 1, 3, 1)
                .refused(2, "soonestTwo", 0, 0, 3).refused(2, "soonestTwo", 4, 4, 0)
                .refused(2, "soonestTwo", 0, 4, 0).refused(2, "soonestTwo", 3, 0, 3);
        // both on one road are AT no PLACE
        c.due(20, "lead", 0, 2, 1).refused(9, "soonestTwo", 0, 1, 1)
                .refused(9, "soonestTwo", 0, 2, 1).refused(9, "soonestTwo", 2, 0, 1)
                .refused(9, "soonestTwo", 2, 1, 2).due(3, "passes", 20)
                .due(20, "soonestTwo", 0, 1, 0).refused(9, "soonestTwo", 0, 2, 1);
        new Check().land("rope 1;" + Lands.full(), 8).due(7, "soonestTwo", 0, 1, 7)
                .due(7, "soonestTwo", 6, 7, 7).due(0, "soonestTwo", 0, 7, 0);
    }

    /** "MEET: the PLACE (2; 9: one and himself, on a ROAD; 8: nowhere)." "MINUTES till both are
     * there (2; 9; 8)." */
    private static void promises40And41Meet() {
        for (String call : new String[] {"meet", "meetIn"}) {
            Check c = apart(0).refused(9, call, 0, 0).refused(9, call, 3, 3)
                    .refused(8, call, 0, 3).refused(8, call, 3, 0).refused(8, call, 1, 3)
                    .refused(2, call, 4, 4).refused(2, call, 0, 4).refused(2, call, 4, 0)
                    .refused(2, call, -1, -1).due(0, call, 0, 1).due(0, call, 1, 2);
            c.due(20, "lead", 0, 2, 1).refused(9, call, 0, 1).refused(9, call, 0, 2)
                    .refused(9, call, 2, 0).refused(9, call, 1, 2).refused(9, call, 1, 3)
                    .refused(9, call, 0, 0).refused(2, call, 0, 4).due(3, "passes", 20)
                    .due(call.equals("meet") ? 0 : 20, call, 0, 2).refused(8, call, 1, 2)
                    .due(call.equals("meet") ? 1 : 0, call, 0, 1);
        }
        // in the glare both wait
        apart(600).due(1, "plant", 0, 1).due(0, "meet", 0, 1).due(20, "go", 1, 1)
                .due(2, "passes", 20).due(0, "meet", 0, 1).due(20, "meetIn", 0, 1)
                .due(1, "plant", 0, 0).due(1, "meet", 0, 1).due(360, "meetIn", 0, 1)
                .due(1, "rule", 0, 24).refused(8, "meet", 0, 1).refused(8, "meetIn", 1, 0);
    }

    /** "PLANT: how many (2; 9: SIGHTED, on a ROAD; 8: never)." "The set of PLANT (2; 9; 8)." */
    private static void promises42And43Plants() {
        for (String call : new String[] {"plants", "plantSet"}) {
            Check c = apart(0).due(1, call, 1, 1).due(0, call, 1, 0).refused(8, call, 1, 2)
                    .refused(9, call, 0, 0).refused(9, call, 0, 1).refused(9, call, 0, 2)
                    .refused(2, call, 4, 0).refused(2, call, 0, 3).refused(2, call, 1, 3)
                    .refused(2, call, 4, 3).refused(8, call, 3, 0).due(0, call, 3, 2);
            c.due(20, "lead", 0, 2, 1).refused(9, call, 1, 1).refused(9, call, 1, 2)
                    .refused(9, call, 0, 1).due(1, call, 2, 1).due(1, "cure", 0, 0)
                    .refused(9, call, 0, 1).due(1, "turn", 0).due(1, call, 0, 1)
                    .refused(8, call, 0, 2);
        }
        // known roads, each with a number of its own
        new Check().land(Lands.twelveRoads() + "blind x at a;", 1).due(0, "plants", 0, 7)
                .due(1, "plant", 0, 0).due(1, "plants", 0, 7).due(1, "plantSet", 0, 7)
                .due(1, "plant", 6, 0).due(1, "plants", 0, 1).due(64, "plantSet", 0, 1)
                .due(1, "plants", 0, 4).due(64, "plantSet", 0, 4).due(1, "plants", 0, 7)
                .due(2048, "plantSet", 0, 7).due(1, "plant", 0, 1).due(1, "plants", 0, 7)
                .due(64, "plantSet", 0, 7);
    }

    /** "WAYS (2; 5)." */
    private static void promise44Ways() {
        Check c = apart(0).due(1, "ways", 0, 0, 0, 0).due(1, "ways", 0, 0, 0, 10)
                .due(0, "ways", 0, 0, 1, 10).due(1, "ways", 0, 0, 1, 9).due(1, "ways", 1, 2, 2, 0)
                .due(0, "ways", 0, 2, 2, 1).due(0, "ways", 1, 0, 1, 1);
        for (int no : new int[] {-1, 11, MOST, LEAST}) {
            c.refused(5, "ways", 0, 0, 0, no).refused(5, "ways", 1, 0, 2, no)
                    .refused(2, "ways", 4, 0, 0, no).refused(2, "ways", 0, 3, 0, no)
                    .refused(2, "ways", 0, 0, 3, no);
        }
        c.due(20, "go", 0, 1).due(1, "ways", 0, 0, 1, 1).refused(5, "ways", 0, 0, 0, 11);
        // what is counted grows with ROADS: around a full ring of four places, and across
        new Check().land("clock 0;" + Lands.places(4) + "road a b minutes 1;road b c minutes 1;"
                + "road c d minutes 1;road d a minutes 1;road a c minutes 1;road b d minutes 1;"
                + "sighted s at a;", 1).due(3, "ways", 0, 0, 0, 2).due(2, "ways", 0, 0, 1, 2)
                .due((59049 + 3) / 4, "ways", 0, 0, 0, 10).due((59049 - 1) / 4, "ways", 0, 2, 1, 10);
    }

    /** "PAIRS: with whom a PERSON is (2; 8: nobody)." */
    private static void promise45Pair() {
        Check c = apart(0).due(1, "pair", 0).due(0, "pair", 1).refused(8, "pair", 2)
                .refused(8, "pair", 3).refused(2, "pair", 4).refused(2, "pair", -1);
        c.due(1, "cure", 3, 1).due(2, "pair", 3).due(3, "pair", 2).due(20, "lead", 0, 4, 1)
                .due(5, "passes", 20).due(1, "pair", 3).due(2, "pair", 0);
        new Check().refused(2, "pair", 0);
    }

    /** "How many PAIRS there are." "How much BLIND and SIGHTED OWE each other in PAIRS, all
     * together, the greater of both each." */
    private static void promises46And47Pairs() {
        Check c = apart(0).due(1, "pairs").due(0, "pairsOwe").due(20, "lead", 0, 2, 1)
                .due(3, "passes", 20).due(20, "pairsOwe").due(1, "cure", 3, 1).due(2, "pairs")
                // x leaves s for z, who owes him nothing
                .due(0, "pairsOwe");
        // x leads s back twice where it smells: s owes him then
        c.due(1, "plant", 0, 1).due(20, "lead", 1, 1, 0).due(3, "passes", 20).due(0, "pairsOwe")
                .due(20, "lead", 1, 1, 1).due(3, "passes", 20).due(20, "owes", 0, 1)
                .due(0, "pairsOwe").due(1, "cure", 2, 1).due(1, "cure", 3, 0).due(1, "cure", 3, 1)
                .due(1, "pairs").due(20, "pairsOwe");
        c.due(1, "cure", 1, 1).due(0, "pairs").due(0, "pairsOwe");
    }

    /** "The PERSON to whom one OWES the most (above 0), of several the first (2; 8: nobody)." */
    private static void promise48Dearest() {
        Check c = new Check().land(Lands.full(), 8);
        for (int p = 0; p < 8; p++) {
            c.refused(8, "dearest", p);
        }
        c.refused(2, "dearest", 8).refused(2, "dearest", -1);
        // v owes z 1, then w 1 as well, then t 2: the first of several, and then the most
        c.due(1, "lead", 5, 128, 1).due(160, "passes", 1).due(5, "dearest", 7)
                .refused(8, "dearest", 5).due(1, "go", 0, 1).due(1, "go", 3, 1).due(9, "passes", 1)
                .due(1, "lead", 0, 128, 0).due(1, "go", 3, 0).due(137, "passes", 1)
                .due(0, "dearest", 7).due(1, "lead", 3, 128, 1).due(136, "passes", 1)
                .due(0, "dearest", 7).due(1, "lead", 3, 128, 0).due(136, "passes", 1)
                .due(3, "dearest", 7).due(2, "settle", 7, 3).due(0, "dearest", 7)
                .due(1, "settle", 7, 0).due(5, "dearest", 7).due(-1, "settle", 5, 7)
                .refused(8, "dearest", 7);
        // the last of all
        c.due(1, "lead", 7, 1, 1).due(129, "passes", 1).due(7, "dearest", 0)
                .refused(8, "dearest", 7);
    }

    /** "The FRACTION is CLOUDS of k (0 to 12) of n days (0 to 12) (5)." */
    private static void promise49Clouds() {
        Check c = new Check().due(1, "clouds", 0, 0).tells(1, "top").tells(1, "bottom")
                .due(1, "clouds", 0, 1).tells(0, "top").tells(1, "bottom")
                .due(1, "clouds", 0, 12).tells(0, "top").tells(1, "bottom")
                .due(1, "clouds", 12, 0).tells(1, "top").tells(1, "bottom")
                .due(1, "clouds", 12, 12).tells(1, "top").tells(1 << 24, "bottom")
                .due(1, "clouds", 1, 1).tells(1, "top").tells(4, "bottom");
        for (int no : new int[] {-1, 13, MOST, LEAST}) {
            c.refused(5, "clouds", no, 0).refused(5, "clouds", 0, no).refused(5, "clouds", no, no)
                    .refused(5, "clouds", no, 12).refused(5, "clouds", 12, no);
        }
        // as cloudy as it is now is nothing to it
        c.due(1, "cloud", 1).due(1, "clouds", 1, 1).tells(1, "top").tells(4, "bottom");
    }

    /** s and u at the road's end at 9:50, with 30 minutes to go; s leads x. */
    private static Check setOut(String glare) {
        return new Check().land(glare + "clock 590;place a;place b;road a b minutes 30;"
                + "sighted s at a;blind x at a;sighted u at a glasses;", 3)
                .due(30, "lead", 0, 2, 1).due(30, "go", 2, 1);
    }

    /** "LOST MINUTES that would come in the next so many (0 to 999) MINUTES by the hours as they
     * are (5)." */
    private static void promise50LostIn() {
        Check c = setOut("");
        int[][] due = {{0, 0}, {1, 0}, {10, 0}, {11, 2}, {12, 4}, {369, 718}, {370, 720},
            {371, 720}, {390, 720}, {391, 720}, {998, 720}, {999, 720}};
        for (int[] row : due) {
            c.due(row[1], "lostIn", row[0]);
        }
        for (int no : new int[] {-1, 1000, MOST, LEAST}) {
            c.refused(5, "lostIn", no);
        }
        c.due(590, "many", 5).due(0, "many", 14).due(30, "person", 0, 2).due(1, "glasses", 2, 0)
                .due(1080, "lostIn", 999).due(1, "cure", 2, 0).due(720 + 999, "lostIn", 999)
                .due(1, "cloud", 1).due(999, "lostIn", 999).due(0, "lostIn", 0);
        // it is so when they have gone by
        setOut("").due(20, "lostIn", 20).due(0, "passes", 20).due(20, "many", 14);
        apart(700).due(0, "lostIn", 999);
        // those that were lost ahead do not count
        setOut("").due(0, "passes", 15).due(10, "many", 14).due(10, "lostIn", 5);
        // over midnight, and hours of both days
        new Check().land("glare 23 to 24;clock 1379;place a;place b;road a b minutes 90;"
                + "sighted s at a;", 1).due(90, "go", 0, 1).due(0, "lostIn", 1).due(59, "lostIn", 60)
                .due(60, "lostIn", 61).due(60, "lostIn", 999).due(1, "rule", 0, 1)
                .due(0, "lostIn", 61).due(1, "lostIn", 62).due(60, "lostIn", 999);
    }

    /** "Those by other hours of GLARE (5)." */
    private static void promise51LostBy() {
        Check c = setOut("").due(0, "lostBy", 0, 0, 24).due(2, "lostBy", 1, 0, 24)
                .due(1998, "lostBy", 999, 0, 24).due(20, "lostBy", 10, 9, 10)
                .due(20, "lostBy", 999, 9, 10).due(720, "lostBy", 999, 10, 16)
                .due(0, "lostBy", 999, 0, 1).due(0, "lostBy", 999, 23, 24);
        for (int no : new int[] {-1, 1000, MOST, LEAST}) {
            c.refused(5, "lostBy", no, 10, 16).refused(5, "lostBy", no, 16, 10);
        }
        int[][] hours = {{-1, 5}, {24, 25}, {5, 5}, {6, 5}, {0, 25}, {0, 0}, {23, 25}, {24, 24},
            {LEAST, MOST}, {MOST, LEAST}};
        for (int[] row : hours) {
            c.refused(5, "lostBy", 0, row[0], row[1]).refused(5, "lostBy", 999, row[0], row[1]);
        }
        c.due(10, "many", 3).due(16, "many", 4).due(1, "cloud", 1).due(0, "lostBy", 999, 0, 24)
                .due(1, "cure", 0, 0).due(1998, "lostBy", 999, 0, 1);
    }

    /** "The FROM (0 to 23) with TILL as many hours later as now .. by which the fewest would be LOST
     * in so many (0 to 999) MINUTES, of several the least (5)." */
    private static void promise52BestFrom() {
        Check c = setOut("").due(0, "bestFrom", 0).due(0, "bestFrom", 999);
        for (int no : new int[] {-1, 1000, MOST, LEAST}) {
            c.refused(5, "bestFrom", no);
        }
        // 0 to 10 and all up to 9 to 19 lose the 10 minutes to 10:00, 11 to 21 none in all
        c.due(1, "rule", 14, 24).due(0, "bestFrom", 0).due(10, "bestFrom", 10)
                .due(11, "bestFrom", 11).due(11, "bestFrom", 999).due(14, "many", 3)
                .due(24, "many", 4).due(590, "many", 5);
        // hours as they are would do, but those from 0 on do as well
        setOut("glare 11 to 12;").due(0, "bestFrom", 999).due(1, "cloud", 1)
                .due(0, "bestFrom", 999);
        // nobody on a road
        apart(700).due(0, "bestFrom", 999);
        // in glare all day it is from 10 on that the first 10 minutes are not lost
        setOut("glare 11 to 24;").due(1, "rule", 0, 24).due(10, "bestFrom", 10)
                .due(11, "bestFrom", 12).due(11, "bestFrom", 999);
    }

    /** "(cut to 24)" */
    private static void promise52CutTo24() {
        // 22 hours; at 23:30 with 99 minutes to go: from 0 on 5 are lost behind midnight in 95, from
        // 1 on 5 behind 1:00, and from 2 on, till 24, the 30 ahead of midnight
        Check c = new Check().land("glare 0 to 22;clock 1410;place a;place b;road a b minutes 99;"
                + "sighted s at a;", 1).due(99, "go", 0, 1).due(65, "lostBy", 95, 0, 22)
                .due(5, "lostBy", 95, 1, 23).due(30, "lostBy", 95, 2, 24)
                .due(30, "lostBy", 95, 23, 24).due(1, "bestFrom", 95);
        // one hour: ahead of midnight, behind it, to 1:05
        c.due(1, "rule", 23, 24).due(2, "bestFrom", 95).due(0, "bestFrom", 30)
                .due(23, "many", 3);
        new Check().land("glare 0 to 24;clock 1350;place a;place b;road a b minutes 99;"
                + "sighted s at a glasses;", 1).due(99, "go", 0, 1).due(1, "glasses", 0, 0)
                .due(23, "bestFrom", 30).due(23, "bestFrom", 1).due(0, "bestFrom", 0);
    }

    /** "In how many MINUTES (1 to 9,999) one comes to where he goes (2; 9: AT a PLACE; 8: not in
     * these)." */
    private static void promise53Arrives() {
        Check c = setOut("").due(390, "arrives", 0).due(390, "arrives", 1).due(30, "arrives", 2)
                .refused(2, "arrives", 3).refused(2, "arrives", -1).due(0, "passes", 29)
                .due(1, "arrives", 2).due(361, "arrives", 1).due(4, "passes", 1)
                .refused(9, "arrives", 2).due(1, "cloud", 1).due(20, "arrives", 0)
                .due(0, "passes", 19).due(1, "arrives", 0).due(1, "arrives", 1)
                .due(1, "cloud", 0);
        c.due(1, "rule", 0, 24).refused(8, "arrives", 0).refused(8, "arrives", 1)
                .due(1, "cure", 1, 1).refused(8, "arrives", 1).due(1, "cure", 0, 0)
                .refused(8, "arrives", 0).due(1, "plant", 0, 1).due(1, "arrives", 1)
                .due(3, "passes", 1).refused(9, "arrives", 0).refused(9, "arrives", 1);
        // as little as can be clear: one hour a day
        new Check().land("glare 1 to 24;clock 59;place a;place b;road a b minutes 99;"
                + "sighted s at a;", 1).due(99, "go", 0, 1).due(2880 + 38 - 59, "arrives", 0);
    }

    /** "LIVED: how many STEPS were come to, MISSED ones, too (5; 8: no DAYS told; DAYS of no STEP
     * are DAYS)." */
    private static void promise54Live() {
        Check c = Check.ring().refused(8, "live", 0).refused(8, "live", 9999);
        for (int no : new int[] {-1, 10000, MOST, LEAST}) {
            c.refused(5, "live", no);
        }
        c.days("", 0).due(0, "live", 0).due(0, "live", 9999).refused(5, "live", 10000)
                .refused(5, "live", -1).days("clear;clear;go cid mine;", 3).due(3, "live", 1)
                .due(3, "lived", 0).due(0, "lived", 4);
    }

    /** "Of live() latest with STATUS 0, whatever came since, what 0: MISSED, 1: MINUTES, 2: how
     * often somebody came to a PLACE, 3: LOST MINUTES, 4: 1 if a STEP was left to be done (by the
     * 300 alone, not by stop), else 0 (5; 8: there was none)." */
    private static void promise55Lived() {
        Check c = Check.ring();
        for (int what = 0; what < 5; what++) {
            c.refused(8, "lived", what);
        }
        for (int no : new int[] {-1, 5, MOST, LEAST}) {
            c.refused(5, "lived", no);
        }
        c.refused(8, "live", 0).days("wait 1;", 1).refused(8, "lived", 0).due(1, "mean", 0, 1)
                .refused(8, "lived", 0).due(0, "passes", 19)
                .days("go ann hill;lead cid bob town;wait 14;wait 366;go bob town;wait 20;clear;", 7)
                .due(7, "live", 0);
        // ann is lost from 600 to 604, and to 960; then 16 more of hers and 20 of bob's
        int[] told = {2, 400, 2, 360, 0};
        for (int what = 0; what < 5; what++) {
            c.due(told[what], "lived", what);
        }
        c.refused(5, "live", -1).due(0, "passes", 9).due(1, "mark").days("stop;", 1)
                .due(1, "mean", 0, 20).due(0, "back").land("", 0).refused(8, "live", 0)
                .faulty("days", "any", 2, 3);
        for (int what = 0; what < 5; what++) {
            c.due(told[what], "lived", what);
        }
        c.refused(5, "lived", 5).days("", 0).due(0, "live", 0);
        for (int what = 0; what < 5; what++) {
            c.due(0, "lived", what);
        }
        // all who are led come and are lost as well, each time
        Check all = new Check().land("glare 0 to 1;" + Lands.full(), 8)
                .days("lead w v b;wait 1;lead w v a;wait 1;cloud;go s c;clear;wait 3;", 8)
                .due(8, "live", 0).due(0, "lived", 0).due(5, "lived", 1).due(4, "lived", 2)
                .due(3, "lived", 3);
        all.due(8, "live", 0).due(1, "lived", 0).due(4, "lived", 2).due(5, "lived", 3);
    }

    /** "The FRACTION is the mean of all LOST MINUTES behind the DAYS, by so many seeds (1 to 20) from
     * one on (all stays as it is) (5: the last above 9,999, too; 8)." */
    private static void promise56Mean() {
        Check c = Check.ring().refused(8, "mean", 0, 1).refused(8, "mean", 9999, 1)
                .refused(8, "mean", 9980, 20);
        int[][] no = {{-1, 1}, {0, 0}, {0, -1}, {0, 21}, {10000, 1}, {9999, 2}, {9981, 20},
            {MOST, 1}, {LEAST, 1}, {0, MOST}, {0, LEAST}, {MOST, 20}, {MOST, MOST}, {-1, 20}};
        for (int[] row : no) {
            c.refused(5, "mean", row[0], row[1]);
        }
        c.days("", 0).due(1, "mean", 9999, 1).due(1, "mean", 9998, 2).due(1, "mean", 9980, 20)
                .due(1, "mean", 0, 20).due(1, "mean", 0, 1);
        for (int[] row : no) {
            c.refused(5, "mean", row[0], row[1]);
        }
        // what was lost ahead counts, and all stays as it is
        c = Check.ring().due(0, "passes", 20).due(30, "lead", 0, 4, 3).due(0, "passes", 13)
                .due(6, "many", 14).days("wait 2;", 1);
        String land = c.land();
        c.due(1, "mean", 0, 20).tells(10, "top").tells(1, "bottom").refused(8, "lived", 0)
                .due(1, "mean", 9999, 1).tells(10, "top").due(1, "live", 0).due(10, "many", 14)
                .due(4, "lived", 3).due(1, "mean", 0, 1).tells(14, "top").due(4, "lived", 3)
                .due(2, "lived", 1);
        Check.same("a land ahead of mean", c.due(1, "turn", 0).land().equals(land), false);
        // by draws: the mean is that of the seeds one by one
        Check d = Check.ring().due(0, "passes", 25).days("any;any;any;wait 30;", 4);
        String ahead = d.land();
        for (int from : new int[] {0, 4, 9980}) {
            int sum = 0;
            for (int i = 0; i < 20; i++) {
                NoonGuides x = d.made();
                x.live(from + i);
                sum += x.many(14);
            }
            int common = 1;
            for (int i = 1; i <= 20; i++) {
                common = sum % i == 0 && 20 % i == 0 ? i : common;
            }
            d.due(1, "mean", from, 20).tells(sum / common, "top").tells(20 / common, "bottom");
        }
        Check.same("the land behind mean", d.land(), ahead);
    }

    /** "A MARK more: how many there are (7)." */
    private static void promise57Mark() {
        Check c = new Check().due(1, "mark").due(2, "mark").due(3, "mark").refused(7, "mark")
                .refused(7, "mark").land(Lands.full(), 8).refused(7, "mark").due(2, "back")
                .due(0, "many", 2).due(3, "mark").refused(7, "mark");
        c.due(2, "back").due(1, "back").due(0, "back").due(1, "mark");
    }

    /** "All is taken back to the latest MARK: how many there are left (8)." */
    private static void promise58Back() {
        Check c = new Check().refused(8, "back").due(1, "mark").due(0, "back").refused(8, "back")
                .refused(8, "back").land("place a;", 0).due(1, "mark").land("place a;place b;", 0)
                .due(2, "mark").land("place a;place b;place c;", 0).due(3, "mark").land("", 0)
                .due(2, "back").due(3, "many", 0).due(1, "back").due(2, "many", 0)
                .land("place a;place b;place c;place d;", 0).due(0, "back").due(1, "many", 0)
                .refused(8, "back").due(1, "many", 0);
        c.due(1, "mark");
        // the same MARK can't be come back to twice, but one that was made at the same time can
        Check.ring().due(1, "mark").due(2, "mark").due(0, "passes", 5).due(1, "back")
                .due(570, "many", 5).due(0, "passes", 7).due(0, "back").due(570, "many", 5)
                .due(0, "passes", 9).refused(8, "back").due(579, "many", 5);
    }

    /** "the LAND with all that became of it, the DAYS are kept as they are" */
    private static void promise58AllIsTakenBack() {
        Check c = Check.ring().days("when lost ann < 40;loop 2;wait 3;end;end;go dot hill;", 4)
                .due(20, "lead", 2, 1, 1).due(5, "passes", 20).due(40, "lead", 0, 4, 2)
                .due(0, "passes", 13).due(1, "cloud", 1).due(0, "passes", 1).due(1, "plant", 1, 1)
                .due(1, "glasses", 1, 0).due(1, "cure", 3, 1).due(1, "rule", 3, 22)
                .due(20, "go", 1, 0);
        String land = c.land();
        for (String other : new String[] {"", Lands.full(), "glare 1 to 2;clock 3;rope 4;habit 5;"
                + "odds 6;place town;place mine;road mine town minutes 77;blind dot at mine;"
                + "sighted ann at town glasses;"}) {
            c.due(1, "mark").feed(other).due(other.isEmpty() ? 0 : other.length() > 300 ? 8 : 2,
                    "land", other.length()).days("any;wait 9;any;", 3).due(2, "mark");
            c.due(1, "cloud", 1).due(3, "live", 3).due(1, "back").due(0, "back");
            Check.same("the land behind back", c.land(), land);
        }
        // what is done on the land that was marked does not change the MARK
        c.due(1, "mark").due(2, "mark").due(1, "cloud", 0).due(1, "turn", 0).due(1, "turn", 1)
                .due(1, "plant", 0, 0).due(1, "cure", 0, 0).due(1, "back");
        Check.same("the land behind the first back", c.land(), land);
        c.due(0, "back");
        Check.same("the land behind the second back", c.land(), land);
        // the DAYS are those of then, its names as well, and its numbers of steps
        c.due(1, "mark").land("place x;blind ann at x;", 1).days("any;", 1).due(0, "back")
                .due(5, "live", 0).due(6, "lived", 1).days("go dot hill;when at bob town;end;", 2)
                .faulty("days", "go ann x;", 3, 7);
        // those of a new LAND do not come back to the old one
        Check none = Check.ring().due(1, "mark").days("wait 5;", 1).due(1, "live", 0)
                .due(0, "back").refused(8, "live", 0).refused(8, "mean", 0, 1);
        none.due(5, "lived", 1);
    }
}
