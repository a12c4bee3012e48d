import java.math.BigInteger;

/** Part 3 of the terms, sentence by sentence: SOONEST, MEET, PLANT, WAYS, PAIRS, CLOUDS. */
public final class Terms3Test {
    /** From a to d by b (road 0, 1) and by c (road 2, 3), and to e by none; s sighted, g with
     * GLASSES, x and y blind, all at a, z blind at e. */
    private static final String SQUARE = Lands.places(5) + "road a b minutes 10;"
            + "road b d minutes 20;road a c minutes 15;road c d minutes 14;sighted s at a;"
            + "sighted g at a glasses;blind x at a;blind y at a;blind z at e;";

    private Terms3Test() {
    }

    public static void main(String[] args) {
        asCloudyAsItIs();
        minute99999DoesNotMatter();
        ifNobodyElseDoesAnything();
        soonestIsTheFewest();
        waitingWhereItHelps();
        lostOnARoad();
        soonestByFewClearHours();
        soonestInARow();
        byTwo();
        meet();
        plantFewest();
        plantLeastAsANumber();
        plantInARow();
        waysSomeNumbers();
        waysOfPeople();
        pairsLikeWhoOwesMost();
        pairsAskOn();
        pairsAsManyAsCanBe();
        cloudsAreOdds();
        Check.end("Terms3Test");
    }

    private static String at(int clock) {
        return "clock " + clock + ";" + SQUARE;
    }

    /** "From now on, as CLOUDY as it is" */
    private static void asCloudyAsItIs() {
        new Check().land(at(590), 5).due(389, "soonest", 0, 3).due(1, "cloud", 1)
                .due(29, "soonest", 0, 3).due(2, "soonestFirst", 0, 3).due(0, "meetIn", 0, 1)
                .due(1, "rule", 0, 24).due(29, "soonest", 0, 3).due(1, "cloud", 0)
                .refused(8, "soonest", 0, 3).refused(8, "soonestFirst", 0, 3);
    }

    /** "(MINUTE 99,999 does not matter)" */
    private static void minute99999DoesNotMatter() {
        Check c = new Check().land(at(0), 5);
        for (int i = 0; i < 100; i++) {
            c.due(0, "passes", 999);
        }
        // 99,999 is 10:39: 321 minutes to 16:00
        c.due(0, "passes", 99).due(99999, "many", 5).due(29, "soonest", 1, 3)
                .due(350, "soonest", 0, 3).due(2, "soonestFirst", 0, 3)
                .due(29, "soonestTwo", 0, 1, 3).due(0, "meet", 0, 1).due(0, "meetIn", 0, 1)
                .due(321, "nextGlare", 0).due(0, "nextGlare", 1).due(15, "go", 1, 2)
                .due(15, "arrives", 1).due(0, "lostIn", 999).due(1, "glasses", 1, 0)
                .due(336, "arrives", 1).due(321, "lostIn", 999).due(100, "lostIn", 100);
    }

    /** "if nobody else does anything": who else is on the ROAD, or LEADS, is nothing to him */
    private static void ifNobodyElseDoesAnything() {
        new Check().land(at(0), 5).due(10, "lead", 1, 4, 1).due(29, "soonest", 0, 3)
                .refused(8, "soonest", 3, 1).refused(9, "soonest", 2, 3)
                .refused(9, "meet", 0, 1);
    }

    /** "SOONEST of one who is AT a PLACE: the fewest MINUTES till he is AT another one, alone" */
    private static void soonestIsTheFewest() {
        new Check().land(at(0), 5).due(0, "soonest", 0, 0).due(10, "soonest", 0, 1)
                .due(15, "soonest", 0, 2).due(29, "soonest", 0, 3).refused(8, "soonest", 0, 4)
                .refused(8, "soonest", 2, 3).due(0, "soonest", 2, 0).due(0, "soonest", 4, 4)
                .refused(8, "soonest", 4, 0).due(1, "soonestFirst", 0, 1)
                .due(2, "soonestFirst", 0, 3);
        // what is longer by roads may be shorter by minutes
        new Check().land("clock 0;" + Lands.places(4) + "road a d minutes 31;road a b minutes 10;"
                + "road b c minutes 10;road c d minutes 10;sighted s at a;", 1)
                .due(30, "soonest", 0, 3).due(1, "soonestFirst", 0, 3)
                .land("clock 0;" + Lands.places(4) + "road a d minutes 30;road a b minutes 10;"
                + "road b c minutes 10;road c d minutes 10;sighted s at a;", 1)
                // of several the first
                .due(30, "soonest", 0, 3).due(1, "soonestFirst", 0, 3);
        new Check().land("clock 0;" + Lands.places(4) + "road d a minutes 30;road d c minutes 10;"
                + "road c b minutes 10;road b a minutes 10;sighted s at d;", 1)
                .due(30, "soonest", 0, 0).due(0, "soonestFirst", 0, 0);
        // a blind one by what smells, or by what he knows
        new Check().land("clock 700;" + SQUARE + "knows x a b;knows x b d;", 5)
                .due(30, "soonest", 2, 3).due(1, "soonestFirst", 2, 3).due(1, "plant", 2, 1)
                .due(30, "soonest", 2, 3).due(1, "plant", 3, 1).due(29, "soonest", 2, 3)
                .due(2, "soonestFirst", 2, 3).due(29, "soonest", 3, 3);
    }

    /** "waiting where it helps" */
    private static void waitingWhereItHelps() {
        new Check().land(at(600), 5).due(389, "soonest", 0, 3).due(370, "soonest", 0, 1)
                .due(0, "soonest", 0, 0).refused(9, "go", 0, 1).due(0, "passes", 359)
                .due(30, "soonest", 0, 3).due(0, "passes", 1).due(29, "soonest", 0, 3);
        // on the way, too: at b at 10:00
        new Check().land("clock 590;" + Lands.places(3) + "road a b minutes 10;"
                + "road b c minutes 20;sighted s at a;blind x at c;", 2)
                .due(10, "soonest", 0, 1).due(390, "soonest", 0, 2).due(2, "meet", 0, 1)
                .due(390, "meetIn", 0, 1).due(1, "soonestFirst", 0, 2);
    }

    /** "on a ROAD he stands LOST as ever" */
    private static void lostOnARoad() {
        new Check().land(at(589), 5).due(10, "soonest", 0, 1).due(375, "soonest", 0, 2)
                .due(389, "soonest", 0, 3);
        new Check().land(at(585), 5).due(15, "soonest", 0, 2).due(0, "passes", 1)
                .due(375, "soonest", 0, 2).due(10, "soonest", 0, 1).due(0, "passes", 4)
                .due(10, "soonest", 0, 1).due(0, "passes", 1).due(370, "soonest", 0, 1);
    }

    /** SOONEST over days of little that is clear. */
    private static void soonestByFewClearHours() {
        String road = "place a;place b;road a b minutes 99;sighted s at a;";
        new Check().land("glare 1 to 24;clock 0;" + road, 1).due(1479, "soonest", 0, 1)
                .due(0, "passes", 30).due(2880 + 9 - 30, "soonest", 0, 1).due(1, "rule", 0, 23)
                .due(2820 + 39 - 30, "soonest", 0, 1).due(1, "rule", 0, 24)
                .refused(8, "soonest", 0, 1).due(1, "rule", 11, 12).due(99, "soonest", 0, 1);
        new Check().land("glare 5 to 6;clock 1439;" + road, 1).due(99, "soonest", 0, 1)
                .due(1, "rule", 0, 1).due(99 + 60, "soonest", 0, 1).due(1, "rule", 1, 2)
                .due(99 + 60, "soonest", 0, 1).due(1, "rule", 2, 3).due(99, "soonest", 0, 1)
                .due(1, "rule", 23, 24).due(100, "soonest", 0, 1);
    }

    /** All eight PLACES in a row, all twelve ROADS, from end to end. */
    private static void soonestInARow() {
        Check c = new Check().land(Lands.full(), 8);
        for (int person = 0; person < 8; person++) {
            for (int place = 0; place < 8; place++) {
                c.due(place, "soonest", person, place);
            }
            c.due(1, "soonestFirst", person, 7).due(255, "reach", person);
        }
        c.due(7, "soonestTwo", 0, 7, 7).due(7, "soonestTwo", 6, 7, 7).due(99, "go", 7, 7)
                .due(128, "passes", 99).due(3, "meet", 7, 0).due(4, "meetIn", 7, 0)
                .due(3, "meet", 0, 7).due(4, "meetIn", 0, 7).due(7, "soonest", 7, 0)
                .due(6, "soonestFirst", 7, 0);
    }

    /** "By two AT one PLACE: on each ROAD the one or the other one LEADS." */
    private static void byTwo() {
        // x knows the one road, y the other one
        Check c = new Check().land("clock 0;" + SQUARE + "knows x a b;knows y b d;", 5)
                .refused(8, "soonest", 2, 3).refused(8, "soonest", 3, 3)
                .due(30, "soonestTwo", 2, 3, 3).due(30, "soonestTwo", 3, 2, 3)
                .due(10, "soonestTwo", 2, 3, 1).refused(8, "soonestTwo", 2, 3, 2)
                .refused(8, "soonestTwo", 2, 3, 4).due(0, "soonestTwo", 2, 3, 0)
                .refused(9, "soonestTwo", 2, 4, 0);
        // in the glare the blind one leads first, and then they wait for it to end
        c.due(0, "passes", 700).due(10, "soonestTwo", 0, 2, 1).due(280, "soonestTwo", 0, 2, 3)
                .due(29, "soonestTwo", 1, 2, 3).due(275, "soonestTwo", 0, 3, 2);
        // one leads a whole road: not half by the one, half by the other one
        new Check().land("clock 595;" + Lands.places(2) + "road a b minutes 10;sighted s at a;"
                + "sighted t at a;blind x at a;", 3).due(370, "soonestTwo", 0, 1, 1)
                .due(370, "soonestTwo", 0, 2, 1).due(1, "plant", 0, 1)
                .due(10, "soonestTwo", 0, 2, 1).due(370, "soonestTwo", 0, 1, 1);
    }

    /** "MEET of two: the PLACE where the later one comes SOONEST, each alone, of several the
     * first." */
    private static void meet() {
        String four = "clock 0;" + Lands.places(4) + "road b a minutes 10;road c a minutes 10;"
                + "road b d minutes 10;road c d minutes 10;sighted s at b;sighted t at c;";
        new Check().land(four, 2).due(0, "meet", 0, 1).due(10, "meetIn", 0, 1)
                .due(0, "meet", 1, 0).due(10, "meetIn", 1, 0);
        // d by less for the later one: 11 and 9 against 12 and 1
        new Check().land("clock 0;" + Lands.places(4) + "road b a minutes 12;road c a minutes 1;"
                + "road b d minutes 11;road c d minutes 9;sighted s at b;sighted t at c;", 2)
                .due(3, "meet", 0, 1).due(11, "meetIn", 0, 1).due(3, "meet", 1, 0);
        // where one of them is, or both
        new Check().land(at(0), 5).due(0, "meet", 0, 1).due(0, "meetIn", 0, 1)
                .due(10, "go", 0, 1).due(1, "passes", 10).due(0, "meet", 0, 1)
                .due(10, "meetIn", 0, 1).due(0, "meet", 0, 2).due(10, "meetIn", 0, 2)
                .due(0, "meet", 2, 0).refused(8, "meet", 0, 4).refused(8, "meetIn", 0, 4)
                .refused(8, "meet", 4, 0).due(20, "go", 0, 3).due(1, "passes", 20)
                .due(2, "meet", 0, 1).due(15, "meetIn", 0, 1).due(0, "meet", 0, 3)
                .due(29, "meetIn", 0, 3).due(29, "meetIn", 3, 0);
    }

    /** "PLANT for a BLIND one AT a PLACE: the fewest ROADS that must SMELL (besides those that do)
     * so that he comes to another PLACE (0: he is there)" */
    private static void plantFewest() {
        Check c = new Check().land(at(0), 5).due(0, "plants", 2, 0).due(0, "plantSet", 2, 0)
                .due(1, "plants", 2, 1).due(1, "plantSet", 2, 1).due(1, "plants", 2, 2)
                .due(4, "plantSet", 2, 2).due(2, "plants", 2, 3).due(3, "plantSet", 2, 3)
                .refused(8, "plants", 2, 4).refused(8, "plantSet", 2, 4).due(0, "plants", 4, 4)
                .refused(8, "plants", 4, 0);
        c.due(1, "plant", 3, 1).due(1, "plants", 2, 3).due(4, "plantSet", 2, 3)
                .due(1, "plant", 0, 1).due(1, "plants", 2, 3).due(2, "plantSet", 2, 3)
                .due(1, "plant", 1, 1).due(0, "plants", 2, 3).due(0, "plantSet", 2, 3)
                .due(0, "plants", 2, 2).due(0, "plantSet", 2, 2);
        // a road that he knows need not smell; one that another one knows must
        new Check().land(at(700) + "knows x c d;knows y a b;", 5).due(1, "plants", 2, 3)
                .due(4, "plantSet", 2, 3).due(1, "plants", 3, 3).due(2, "plantSet", 3, 3)
                .due(0, "plants", 3, 1).due(0, "plantSet", 3, 1);
    }

    /** "of several sets the least as a number (1 for ROAD 0 ..)" */
    private static void plantLeastAsANumber() {
        // two roads each: 0 and 3 (9), 1 and 2 (6)
        new Check().land(Lands.places(4) + "road a b minutes 9;road a c minutes 1;"
                + "road c d minutes 1;road b d minutes 9;blind x at a;", 1)
                .due(2, "plants", 0, 3).due(6, "plantSet", 0, 3);
        // fewer by the highest number go ahead of more by the lowest
        new Check().land(Lands.places(4) + "road a b minutes 1;road b d minutes 1;"
                + "road a d minutes 99;blind x at a;", 1).due(1, "plants", 0, 3)
                .due(4, "plantSet", 0, 3);
        // the roads 9, 10, 11 alone lead to the last place
        new Check().land(Lands.places(8) + "road a b minutes 1;road a c minutes 1;"
                + "road a d minutes 1;road b c minutes 1;road b d minutes 1;road c d minutes 1;"
                + "road d e minutes 1;road c e minutes 1;road b e minutes 1;road e f minutes 1;"
                + "road f g minutes 1;road g h minutes 1;blind x at a;", 1)
                .due(5, "plants", 0, 7).due(512 + 1024 + 2048 + 4 + 64, "plantSet", 0, 7)
                .due(2, "plants", 0, 4).due(4 + 64, "plantSet", 0, 4);
    }

    /** All ROADS of the row of eight. */
    private static void plantInARow() {
        Check c = new Check().land("habit 1;" + Lands.row(5, false) + "blind x at a;blind y at h;"
                + "knows y g h;", 2).due(7, "plants", 0, 7).due(127, "plantSet", 0, 7)
                .due(6, "plants", 1, 0).due(126, "plantSet", 1, 0).due(1, "plants", 0, 1)
                .due(64, "plantSet", 0, 1).due(1, "ways", 1, 7, 7, 10)
                .due(192, "reach", 1).due(1, "reach", 0);
        for (int road = 0; road < 7; road++) {
            c.due(1, "plant", road, 1);
        }
        c.due(0, "plants", 0, 7).due(0, "plantSet", 0, 7).due(255, "reach", 0)
                .due(35, "soonest", 0, 7).due(35, "soonest", 1, 0).due(3, "meet", 0, 1)
                .due(20, "meetIn", 0, 1);
    }

    /** "WAYS: in how many ways a PERSON goes n ROADS (0 to 10) one behind the other from a PLACE
     * to another one, or the same" */
    private static void waysSomeNumbers() {
        Check c = new Check().land(at(0), 5);
        for (int place = 0; place < 5; place++) {
            for (int to = 0; to < 5; to++) {
                c.due(place == to ? 1 : 0, "ways", 0, place, to, 0);
            }
        }
        // around the square: from a to d in 2^(n - 1) ways if n is even
        c.due(1, "ways", 0, 0, 1, 1).due(0, "ways", 0, 0, 3, 1).due(2, "ways", 0, 0, 3, 2)
                .due(0, "ways", 0, 0, 3, 3).due(8, "ways", 0, 0, 3, 4).due(512, "ways", 0, 0, 3, 10)
                .due(512, "ways", 0, 0, 0, 10).due(256, "ways", 0, 0, 1, 9)
                .due(0, "ways", 0, 0, 4, 10).due(0, "ways", 4, 4, 4, 1)
                .due(1, "ways", 4, 4, 4, 0);
        // six places, all twelve roads of an octahedron: closed ways are (4^n + 2 * (-2)^n) / 6
        new Check().land("clock 0;" + Lands.places(6) + "road a b minutes 1;road a c minutes 1;"
                + "road a d minutes 1;road a e minutes 1;road f b minutes 1;road f c minutes 1;"
                + "road f d minutes 1;road f e minutes 1;road b c minutes 1;road c d minutes 1;"
                + "road d e minutes 1;road e b minutes 1;sighted s at a;", 1)
                .due((1048576 + 2048) / 6, "ways", 0, 0, 0, 10)
                .due((1048576 + 2048) / 6, "ways", 0, 4, 4, 10)
                .due((262144 - 1024) / 6, "ways", 0, 5, 5, 9)
                .due((1048576 + 2048) / 6, "ways", 0, 0, 5, 10);
    }

    /** "all of which he CAN go (the SIGHTED: as without GLARE)" */
    private static void waysOfPeople() {
        new Check().land(at(700) + "knows y a b;", 5).due(2, "ways", 0, 0, 3, 2)
                .due(2, "ways", 1, 0, 3, 2).due(0, "ways", 2, 0, 3, 2).due(0, "ways", 2, 0, 1, 1)
                .due(1, "ways", 2, 0, 0, 0).due(1, "ways", 3, 0, 1, 1).due(1, "ways", 3, 0, 0, 10)
                .due(0, "ways", 3, 0, 0, 9).due(1, "plant", 1, 1).due(1, "ways", 3, 0, 3, 2)
                .due(0, "ways", 2, 0, 3, 2).due(1, "ways", 2, 1, 3, 1).due(1, "rule", 0, 24)
                .due(2, "ways", 0, 0, 3, 2).due(1, "cure", 0, 0).due(0, "ways", 0, 0, 3, 2);
        // from anywhere, even if he is on a road
        new Check().land(at(0), 5).due(10, "go", 0, 1).due(2, "ways", 0, 0, 3, 2)
                .due(2, "ways", 0, 3, 0, 2);
    }

    /** The smelling road and eight people, of whom one LEADS another one so many times over it. */
    private static Check eight() {
        return new Check().land("clock 0;place a;place b;road a b minutes 10 smells;"
                + Lands.eightPeople(), 8);
    }

    private static Check leads(Check c, int who, int whom, int from) {
        return c.due(10, "lead", who, 1 << whom, 1 - from)
                .due(1 << who | 1 << whom, "passes", 10);
    }

    /** "each likes those of the other sort best who OWE him most, of several the first" */
    private static void pairsLikeWhoOwesMost() {
        // nobody owes anything: the first with the first
        Check c = eight().due(4, "pairs").due(0, "pairsOwe");
        due(c, new int[] {2, 3, 0, 1, 6, 7, 4, 5});
        // z owes s: s likes z, z likes s least; v comes to what is left
        c = leads(eight(), 2, 5, 0).due(10, "owes", 5, 2).due(10, "pairsOwe").due(4, "pairs");
        due(c, new int[] {3, 6, 5, 0, 7, 2, 1, 4});
        // t owes w: w keeps t when t asks, and leaves s; t likes w least, and asks him last
        c = leads(eight(), 0, 3, 0).due(10, "owes", 3, 0).due(0, "pairsOwe");
        due(c, new int[] {2, 3, 0, 1, 6, 7, 4, 5});
        // u owes x: x has t, u asks w first, who keeps s, then y: x likes him, but is asked last
        c = leads(eight(), 1, 6, 0).due(0, "pairsOwe");
        due(c, new int[] {2, 3, 0, 1, 6, 7, 4, 5});
        // x owes s: s asks x first, who leaves him for u; then w leaves t for s, and x u for t
        c = leads(eight(), 2, 1, 0).due(10, "owes", 1, 2).due(0, "pairsOwe");
        due(c, new int[] {2, 3, 0, 1, 6, 7, 4, 5});
        // y owes v, w owes u: v asks y, u asks w, and neither is kept
        c = leads(leads(eight(), 7, 4, 0), 6, 0, 0).due(0, "pairsOwe");
        due(c, new int[] {2, 3, 0, 1, 6, 7, 4, 5});
        // w, x and y owe s: he asks them by numbers, and each leaves him for one who owes nothing
        c = eight().due(10, "lead", 2, 19, 1).due(23, "passes", 10).due(0, "pairsOwe");
        due(c, new int[] {3, 6, 5, 0, 7, 2, 1, 4});
        // one with two who owe him alike, and then the second one more
        c = new Check().land("clock 0;place a;place b;road a b minutes 9;blind x at a;"
                + "blind y at a;sighted s at a;", 3).due(9, "lead", 2, 3, 1).due(7, "passes", 9)
                .due(0, "pair", 2).due(9, "pairsOwe").due(9, "lead", 2, 2, 0)
                .due(6, "passes", 9).due(1, "pair", 2).due(18, "pairsOwe").due(1, "pairs")
                .refused(8, "pair", 0);
    }

    private static void due(Check c, int[] with) {
        for (int p = 0; p < with.length; p++) {
            c.due(with[p], "pair", p);
        }
    }

    /** "the SIGHTED, by numbers, ask whom they like best of those they did not ask yet; who is
     * asked keeps whom he likes better, the other one asks on" */
    private static void pairsAskOn() {
        // t owes w 10 and x, y, z 20 each: he asks w first, who leaves s for him; s asks x, who
        // likes him and t (20) - t is better, but does not ask; u and v come to y and z
        Check c = eight().due(10, "lead", 0, 8, 1).due(10, "go", 1, 1).due(10, "go", 4, 1)
                .due(10, "go", 5, 1).due(59, "passes", 10).due(10, "owes", 3, 0);
        int at = 1;
        for (int who : new int[] {1, 4, 5}) {
            for (int i = 0; i < 2; i++) {
                c.due(10, "lead", who, 8, 1 - at);
                int going = 1 << who | 8;
                for (int other : new int[] {1, 4, 5}) {
                    if (other != who) {
                        c.due(10, "go", other, 1 - at);
                        going |= 1 << other;
                    }
                }
                c.due(going, "passes", 10);
                at = 1 - at;
            }
            c.due(20, "owes", 3, who);
        }
        c.due(4, "pairs").due(10, "pairsOwe");
        due(c, new int[] {3, 2, 1, 0, 6, 7, 4, 5});
        // without w he asks x first, and all move on by one
        c.due(1, "cure", 0, 1).due(3, "pairs").due(20, "pairsOwe").due(3, "pair", 1)
                .due(0, "pair", 4).due(2, "pair", 5).refused(8, "pair", 6).refused(8, "pair", 7);
    }

    /** "each SIGHTED one with a BLIND one, as many as can be" */
    private static void pairsAsManyAsCanBe() {
        String land = "place a;sighted p at a;sighted q at a;sighted r at a;";
        new Check().due(0, "pairs").due(0, "pairsOwe").land("place a;", 0).due(0, "pairs")
                .land(land, 3).due(0, "pairs").due(0, "pairsOwe").refused(8, "pair", 0)
                .land(land + "blind x at a;", 4).due(1, "pairs").due(3, "pair", 0)
                .due(0, "pair", 3).refused(8, "pair", 1).refused(8, "pair", 2)
                .land("place a;blind x at a;blind y at a;sighted s at a;", 3).due(1, "pairs")
                .due(0, "pair", 2).due(2, "pair", 0).refused(8, "pair", 1);
        // seven of one sort, and those on a road are with somebody, too
        Check c = new Check().land(Lands.full(), 8).due(4, "pairs").due(1, "go", 2, 1)
                .due(1, "lead", 3, 1, 1).due(4, "pairs").due(2, "pair", 0).due(3, "pair", 1);
        for (int p : new int[] {0, 1, 4}) {
            c.due(1, "cure", p, 1);
        }
        c.due(1, "pairs").due(5, "pair", 0).due(0, "pair", 5).refused(8, "pair", 1)
                .due(1, "cure", 5, 1).due(0, "pairs").refused(8, "pair", 0);
        for (int p = 0; p < 8; p++) {
            c.due(1, "cure", p, 0);
        }
        c.due(0, "pairs").refused(8, "pair", 7);
    }

    /** "CLOUDS: the odds that on k or more of n days it is CLOUDY, by ODDS sixteenths each day." */
    private static void cloudsAreOdds() {
        for (int odds = 0; odds <= 16; odds++) {
            NoonGuides x = new NoonGuides();
            String text = "odds " + odds + ";";
            for (long[] five : Calls.feeds(text)) {
                Calls.on(x, "feed", five);
            }
            x.land(text.length());
            for (int n = 0; n <= 12; n++) {
                for (int k = 0; k <= 12; k++) {
                    BigInteger top = cloudy(n, k, odds);
                    BigInteger bottom = BigInteger.valueOf(16).pow(n);
                    BigInteger common = top.gcd(bottom);
                    Check.same("clouds " + n + " " + k + " of " + odds, x.clouds(n, k), true);
                    Check.same("its top", x.top(), top.divide(common));
                    Check.same("its bottom", x.bottom(), bottom.divide(common));
                }
            }
        }
    }

    /** Day by day: of 16 to the n ways those on which it is cloudy k times or more. */
    private static BigInteger cloudy(int n, int k, int odds) {
        if (k > n) {
            return BigInteger.ZERO;
        }
        if (n == 0) {
            return BigInteger.ONE;
        }
        BigInteger is = cloudy(n - 1, Math.max(0, k - 1), odds);
        return is.multiply(BigInteger.valueOf(odds))
                .add(cloudy(n - 1, k, odds).multiply(BigInteger.valueOf(16 - odds)));
    }
}
