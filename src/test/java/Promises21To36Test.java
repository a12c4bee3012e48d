/** Promises 21 to 36: what is done, and who can. Edges, each STATUS, and which of two comes first;
 * the index of a PLACE, ROAD or PERSON is looked at in IndexTest. */
public final class Promises21To36Test {
    private static final int MOST = Lands.MOST;
    private static final int LEAST = Lands.LEAST;

    private Promises21To36Test() {
    }

    public static void main(String[] args) {
        promise21Passes();
        promise21PassesTheLast();
        promise22Go();
        promise23Lead();
        promise23LeadCantBe();
        promise24Turn();
        promise25Cloud();
        promise26Plant();
        promise27Glasses();
        promise28Cure();
        promise29Settle();
        promise30Rule();
        promise31GlareAt();
        promise32Can();
        promise33Guides();
        promise34Stuck();
        promise35Reach();
        promise36NextGlare();
        Check.end("Promises21To36Test");
    }

    /** "So many MINUTES (1 to 999): the set of PEOPLE who came to a PLACE in them" */
    private static void promise21Passes() {
        Check c = Check.ring().due(0, "passes", 1).due(571, "many", 5).due(0, "passes", 999)
                .due(1570, "many", 5);
        for (int no : new int[] {0, -1, 1000, 1001, MOST, LEAST}) {
            c.refused(5, "passes", no);
        }
        // who comes in the first of them, in the last of them, and one too late
        c = new Check().land(Lands.full(), 8).due(1, "go", 0, 1).due(99, "go", 7, 7)
                .due(99, "lead", 6, 8, 3).due(1, "passes", 98).due(200, "passes", 1)
                .due(0, "many", 12).due(99, "many", 5);
        c.due(1, "lead", 5, 22, 1).due(54, "passes", 1).due(1, "lead", 1, 53, 0).due(0, "many", 14)
                .due(55, "passes", 999).due(0, "passes", 999);
        // all at once, with what each is owed
        new Check().land(Lands.full(), 8).due(1, "lead", 0, 254, 1).due(255, "passes", 1)
                .due(7, "net", 0).due(1, "gone", 7, 6).due(1, "gone", 0, 6);
    }

    /** "(5; 7: above 99,999)" */
    private static void promise21PassesTheLast() {
        Check c = new Check().land("clock 1098;place a;place b;road a b minutes 99;"
                + "sighted s at a glasses;", 1);
        for (int i = 0; i < 98; i++) {
            c.due(0, "passes", 999);
        }
        // 99,000: to 99,999 in one go, but no minute more
        c.due(99000, "many", 5).due(99, "go", 0, 1).due(1, "mark").due(1, "passes", 999)
                .due(99999, "many", 5).refused(7, "passes", 1).refused(7, "passes", 999)
                .refused(5, "passes", 0).refused(5, "passes", 1000).due(0, "back")
                .due(1, "passes", 998).refused(7, "passes", 2).due(0, "passes", 1)
                .refused(7, "passes", 1);
    }

    /** "GO: MINUTES LEFT (2; 9: on a ROAD, no ROAD, he can't)." */
    private static void promise22Go() {
        Check c = Check.ring().refused(9, "go", 0, 0).refused(9, "go", 0, 2).refused(9, "go", 2, 3)
                .refused(9, "go", 3, 0).due(30, "go", 0, 3)
                .refused(9, "go", 0, 3).refused(9, "go", 0, 0).refused(9, "go", 0, 1)
                .due(0, "passes", 29).refused(9, "go", 0, 2).due(1, "passes", 1)
                .refused(9, "go", 0, 0).due(1, "cloud", 1).due(15, "go", 0, 2);
        // led, too, and 2 ahead of 9
        c.refused(2, "go", 0, 4).refused(2, "go", 4, 0).due(1, "passes", 15);
        Check.ring().due(20, "lead", 2, 1, 1).refused(9, "go", 0, 1).refused(9, "go", 0, 0)
                .refused(9, "go", 0, 3).refused(2, "go", 0, 4);
    }

    /** "LEAD a set of PEOPLE: MINUTES LEFT (2; 5: nobody, he himself, more than ROPE, too" */
    private static void promise23Lead() {
        Check c = new Check().land("rope 2;" + Lands.full(), 8);
        for (int p = 0; p < 8; p++) {
            c.refused(5, "lead", p, 0, 1).refused(5, "lead", p, 1 << p, 1)
                    .refused(5, "lead", p, 255, 1).refused(5, "lead", p, 256, 1)
                    .refused(5, "lead", p, 257, 1).refused(5, "lead", p, -1, 1)
                    .refused(5, "lead", p, LEAST, 1).refused(5, "lead", p, MOST, 1)
                    .refused(5, "lead", p, 1 << p | 1 << (p + 1) % 8, 1)
                    .refused(5, "lead", p, p < 4 ? 112 : 7, 1);
            c.due(1, "mark").due(1, "lead", p, 1 << (p + 1) % 8, 1).due(0, "back");
            c.due(1, "mark").due(1, "lead", p, 1 << (p + 1) % 8 | 1 << (p + 7) % 8, 1)
                    .due(0, "back");
        }
        // 2 ahead of 5, 5 ahead of 9
        c.refused(2, "lead", 8, 0, 1).refused(2, "lead", 0, 0, 8).refused(2, "lead", -1, 999, -1)
                .refused(5, "lead", 0, 1, 4).refused(5, "lead", 0, 0, 0)
                .refused(5, "lead", 0, 512, 7).due(1, "go", 7, 1).refused(5, "lead", 7, 0, 0)
                .refused(5, "lead", 7, 128, 1).refused(9, "lead", 7, 1, 1);
        // of fewer people a set may hold fewer
        Check.ring().refused(5, "lead", 0, 16, 1).refused(5, "lead", 0, 20, 1)
                .refused(5, "lead", 0, 32, 1).due(20, "lead", 0, 4, 1);
    }

    /** "9: on a ROAD, no ROAD, he can't, somebody is not AT that PLACE)" */
    private static void promise23LeadCantBe() {
        Check c = Check.ring().refused(9, "lead", 0, 4, 2).refused(9, "lead", 0, 4, 0)
                .refused(9, "lead", 2, 1, 3).refused(9, "lead", 2, 1, 0).refused(9, "lead", 0, 2, 1)
                .refused(9, "lead", 0, 6, 1).refused(9, "lead", 0, 8, 1).refused(9, "lead", 3, 4, 1);
        c.due(20, "lead", 0, 4, 1).refused(9, "lead", 0, 4, 1).refused(9, "lead", 0, 4, 0)
                .refused(9, "lead", 0, 2, 1).refused(9, "lead", 2, 1, 0)
                .refused(9, "lead", 1, 1, 0).refused(9, "lead", 1, 5, 0).due(5, "passes", 20)
                .due(40, "lead", 1, 5, 2).due(0, "passes", 39).refused(9, "lead", 3, 2, 3)
                .due(7, "passes", 1).due(15, "lead", 3, 6, 3).due(14, "passes", 15)
                .refused(9, "lead", 1, 1, 0).refused(9, "lead", 0, 2, 1);
        // in the glare he can't, though those whom he would lead can
        Check.ring().due(0, "passes", 30).refused(9, "lead", 0, 4, 1).due(20, "lead", 2, 1, 1);
    }

    /** "One who is on a ROAD, and not LED, turns back at once: he, and all whom he LEADS, are AT the
     * PLACE from where they came (2; 9: AT a PLACE, LED)." */
    private static void promise24Turn() {
        Check c = new Check().land(Lands.full(), 8);
        for (int p = 0; p < 8; p++) {
            c.refused(9, "turn", p);
        }
        // two who lead, one by himself, and the others at a
        c.due(1, "lead", 0, 6, 1).due(99, "lead", 7, 8, 7).due(99, "go", 6, 2)
                .refused(9, "turn", 1).refused(9, "turn", 2).refused(9, "turn", 3)
                .refused(9, "turn", 4).due(207, "many", 12).due(1, "turn", 7).due(71, "many", 12)
                .due(6, "many", 13).refused(9, "turn", 7).refused(9, "turn", 3);
        int[] at = {-1, -1, -1, 0, 0, 0, -1, 0};
        places(c, at);
        c.due(0, "person", 1, 3).due(1, "person", 2, 1).due(99, "person", 6, 2).due(7, "passes", 1)
                .due(98, "person", 6, 2).due(1, "turn", 6).due(0, "gone", 6, 7).due(0, "many", 12);
        places(c, new int[] {1, 1, 1, 0, 0, 0, 0, 0});
        // back where they came from, which is not where they were at first
        c.due(1, "lead", 1, 5, 2).due(1, "turn", 1);
        places(c, new int[] {1, 1, 1, 0, 0, 0, 0, 0});
        c.due(1, "many", 5).due(0, "many", 14).due(1, "gone", 0, 6).due(0, "gone", 0, 5)
                .due(1, "owes", 2, 0).due(0, "owes", 2, 1).due(1, "lead", 0, 4, 0)
                .due(1, "turn", 0).due(1, "go", 2, 2).due(4, "passes", 1)
                .refused(2, "turn", 8).refused(2, "turn", -1);
    }

    private static void places(Check c, int[] at) {
        for (int p = 0; p < at.length; p++) {
            if (at[p] < 0) {
                c.refused(8, "person", p, 0);
            } else {
                c.due(at[p], "person", p, 0);
            }
        }
    }

    /** "It is CLOUDY from now on, or not (9: it is so)." */
    private static void promise25Cloud() {
        new Check().refused(9, "cloud", 0).due(1, "cloud", 1).refused(9, "cloud", 1)
                .due(1, "many", 10).due(0, "passes", 999).due(1, "many", 10).due(1, "cloud", 0)
                .refused(9, "cloud", 0).due(0, "many", 10);
    }

    /** "A ROAD SMELLS from now on, or not (2; 9: it is so)." */
    private static void promise26Plant() {
        Check c = new Check().land(Lands.full(), 8);
        for (int r = 0; r < 12; r++) {
            int is = r < 7 ? 1 : 0;
            c.refused(9, "plant", r, is).due(1, "plant", r, 1 - is).due(1 - is, "road", r, 3)
                    .refused(9, "plant", r, 1 - is).due(1 - is, "can", 0, r)
                    .due(1, "plant", r, is).due(is, "road", r, 3).due(is, "can", 0, r);
        }
        c.refused(2, "plant", 12, 1).refused(2, "plant", -1, 0);
        // it smells to nobody else than before, if all are sighted
        c.due(1, "can", 7, 11).due(1, "plant", 11, 1).due(1, "can", 7, 11);
    }

    /** "One gets GLASSES, or loses them (2; 9: BLIND, or it is so)." */
    private static void promise27Glasses() {
        Check c = Check.ring().refused(9, "glasses", 0, 0).due(1, "glasses", 0, 1)
                .refused(9, "glasses", 0, 1).due(1, "person", 0, 5).refused(9, "glasses", 1, 1)
                .due(1, "glasses", 1, 0).refused(9, "glasses", 1, 0).due(0, "person", 1, 5)
                .refused(9, "glasses", 2, 1).refused(9, "glasses", 2, 0)
                .refused(9, "glasses", 3, 1).refused(9, "glasses", 3, 0);
        c.due(0, "passes", 30).due(1, "can", 0, 1).due(0, "can", 1, 1).due(1, "cure", 0, 0)
                .refused(9, "glasses", 0, 0).refused(9, "glasses", 0, 1).due(1, "cure", 2, 1)
                .refused(9, "glasses", 2, 0).due(1, "glasses", 2, 1).due(1, "can", 2, 1);
    }

    /** "One goes BLIND (without GLASSES then), or is cured (2; 9: it is so)." */
    private static void promise28Cure() {
        Check c = Check.ring().refused(9, "cure", 0, 1).refused(9, "cure", 2, 0)
                .due(1, "person", 1, 5).due(1, "cure", 1, 0).due(14, "many", 11)
                .due(0, "person", 1, 5).refused(9, "cure", 1, 0).due(1, "cure", 1, 1)
                .due(0, "person", 1, 5).due(12, "many", 11).refused(9, "cure", 1, 1)
                .due(1, "cure", 3, 1).due(4, "many", 11).due(0, "person", 3, 5)
                .due(2, "gone", 3, 1).due(1, "cure", 2, 1).due(0, "many", 11)
                .due(0, "person", 2, 5);
        // on a road, too, led or not
        c.due(30, "lead", 0, 4, 3).due(1, "cure", 0, 0).due(1, "cure", 2, 0).due(5, "many", 11)
                .due(0, "passes", 3).due(3, "person", 2, 4).due(1, "cure", 2, 1)
                .due(0, "passes", 1).due(4, "person", 0, 4).due(1, "cure", 0, 1)
                .due(0, "passes", 1).due(4, "person", 0, 4).due(29, "person", 2, 2);
    }

    /** "Two OWE each other nothing any more: what the first OWED; STATUS tells NONE from -1 (2; 9:
     * one and himself)." */
    private static void promise29Settle() {
        Check c = new Check().land("clock 0;place a;place b;road a b minutes 1;sighted s at a;"
                + "blind x at a;blind y at a;", 3).due(0, "settle", 0, 1).due(1, "lead", 0, 6, 1)
                .due(7, "passes", 1).due(-1, "settle", 0, 1).due(0, "owes", 0, 1)
                .due(0, "owes", 1, 0).due(1, "owes", 2, 0).due(0, "settle", 0, 1)
                .due(0, "settle", 1, 0).due(1, "net", 0).due(1, "settle", 2, 0)
                .due(0, "net", 0).due(0, "owes", 0, 2).refused(9, "settle", 0, 0)
                .refused(9, "settle", 2, 2).refused(2, "settle", 3, 3).refused(2, "settle", 3, 0)
                .refused(2, "settle", 0, 3).refused(2, "settle", -1, -1);
        c.due(1, "lead", 0, 2, 0).due(3, "passes", 1).due(1, "owes", 1, 0);
    }

    /** "GLARE from one hour on, ahead of another one (5)." */
    private static void promise30Rule() {
        Check c = Check.ring();
        for (int from = -1; from <= 25; from++) {
            for (int till = -1; till <= 25; till++) {
                if (from >= 0 && from < 24 && till > from && till <= 24) {
                    c.due(1, "rule", from, till).due(from, "many", 3).due(till, "many", 4);
                }
            }
        }
        c = Check.ring();
        int[][] no = {{-1, 0}, {-1, 5}, {0, 0}, {0, -1}, {5, 5}, {5, 4}, {23, 23}, {24, 24},
            {24, 25}, {23, 25}, {0, 25}, {25, 26}, {LEAST, MOST}, {MOST, LEAST}, {0, MOST},
            {LEAST, 24}, {LEAST, 0}, {12, 0}};
        for (int[] hours : no) {
            c.refused(5, "rule", hours[0], hours[1]);
        }
        c.due(0, "many", 9).due(1, "rule", 9, 10).due(1, "many", 9).due(0, "can", 0, 1)
                .due(1, "rule", 9, 10).due(1, "rule", 10, 11).due(0, "many", 9);
    }

    /** "1 if there is GLARE at a MINUTE (0 to 99,999), as CLOUDY as it is now, else 0 (5)." */
    private static void promise31GlareAt() {
        Check c = Check.ring().due(0, "glareAt", 0).due(1, "glareAt", 99999);
        for (int no : new int[] {-1, 100000, MOST, LEAST}) {
            c.refused(5, "glareAt", no);
        }
        c.due(1, "rule", 0, 1).due(1, "glareAt", 0).due(1, "glareAt", 59).due(0, "glareAt", 60)
                .due(0, "glareAt", 1439).due(1, "glareAt", 1440).due(0, "glareAt", 99999)
                .due(1, "cloud", 1).due(0, "glareAt", 0).due(0, "glareAt", 1440)
                .refused(5, "glareAt", 100000);
    }

    /** "1 if a PERSON CAN go a ROAD now, wherever he is, else 0 (2)." */
    private static void promise32Can() {
        Check c = new Check().land(Lands.full(), 8);
        for (int p = 0; p < 8; p++) {
            for (int r = 0; r < 12; r++) {
                boolean blind = p < 2 || p == 4 || p == 5;
                c.due(!blind || r < 7 ? 1 : 0, "can", p, r);
            }
        }
        // on a road, and led, as if he were not
        c.due(1, "lead", 7, 1, 1).due(1, "can", 7, 11).due(1, "can", 0, 0).due(0, "can", 0, 11)
                .due(1, "rule", 0, 24).due(0, "can", 7, 11).due(0, "can", 7, 0)
                .due(1, "can", 0, 0);
    }

    /** "The set of PEOPLE AT a PLACE who CAN go from there to another one now (2; 9: no ROAD)." */
    private static void promise33Guides() {
        Check c = new Check().land(Lands.full(), 8).due(255, "guides", 0, 1)
                .due(204, "guides", 0, 2).due(204, "guides", 0, 7).due(0, "guides", 7, 0)
                .due(0, "guides", 1, 0).refused(9, "guides", 0, 6).refused(9, "guides", 6, 0)
                .refused(9, "guides", 0, 0).refused(9, "guides", 7, 7).refused(2, "guides", 8, 8)
                .refused(2, "guides", 8, 0).refused(2, "guides", 0, 8)
                .refused(2, "guides", -1, -1);
        // those on a road are nowhere, those elsewhere not there
        c.due(1, "lead", 7, 64, 1).due(63, "guides", 0, 1).due(192, "passes", 1)
                .due(192, "guides", 1, 0).due(192, "guides", 1, 2).due(63, "guides", 0, 1)
                .due(12, "guides", 0, 2).due(1, "rule", 0, 24).due(51, "guides", 0, 1)
                .due(0, "guides", 1, 0).due(0, "guides", 0, 7);
    }

    /** "The set of PEOPLE AT a PLACE who CAN go no ROAD from there now." */
    private static void promise34Stuck() {
        Check c = new Check().due(0, "stuck").land(Lands.full(), 8).due(0, "stuck")
                .due(1, "rule", 0, 24).due(204, "stuck").due(1, "plant", 6, 0).due(255, "stuck")
                .due(1, "glasses", 7, 1).due(127, "stuck").due(1, "plant", 11, 1)
                .due(76, "stuck").due(99, "lead", 7, 64, 7).due(12, "stuck").due(1, "cloud", 1)
                .due(0, "stuck");
        c.due(192, "passes", 99).due(1, "plant", 0, 0).due(1, "plant", 11, 0).due(51, "stuck")
                // u was led by the road from h: with habit 1 he knows it
                .due(1, "cure", 6, 0).due(51, "stuck").due(1, "cure", 2, 0).due(55, "stuck");
        // where there is no road at all
        new Check().land("clock 0;place a;place b;place c;road a b minutes 5;"
                + "sighted s at c glasses;blind x at c;blind y at a;sighted t at b;", 4)
                .due(7, "stuck").due(1, "cloud", 1).due(7, "stuck");
    }

    /** "The set of PLACES to which a PERSON CAN come alone by ROADS he CAN go now, from where he is
     * (that, too) (2; 9: on a ROAD)." */
    private static void promise35Reach() {
        Check c = new Check().land(Lands.full(), 8);
        for (int p = 0; p < 8; p++) {
            c.due(255, "reach", p);
        }
        c.due(1, "rule", 0, 24).due(1, "reach", 7).due(255, "reach", 5).due(1, "plant", 3, 0)
                .due(15, "reach", 5).due(1, "plant", 11, 1).due(255, "reach", 5)
                .due(1, "plant", 0, 0).due(1, "plant", 6, 0).due(129, "reach", 5)
                .due(1, "glasses", 7, 1).due(255, "reach", 7).due(1, "reach", 6);
        c.due(99, "lead", 7, 1, 7).refused(9, "reach", 7).refused(9, "reach", 0)
                .due(129, "passes", 99).due(129, "reach", 0).due(255, "reach", 7)
                .due(1, "plant", 11, 0).due(129, "reach", 0).due(1, "reach", 1)
                .refused(2, "reach", 8).refused(2, "reach", -1);
        new Check().land("place a;place b;sighted s at b;", 1).due(2, "reach", 0);
    }

    /** "In how many MINUTES (0 to 1,440) there is GLARE first, or none, as told (5: neither 0 none
     * nor 1 GLARE; 8: not in these)." */
    private static void promise36NextGlare() {
        Check c = Check.ring().due(0, "nextGlare", 0).due(30, "nextGlare", 1);
        for (int no : new int[] {-1, 2, MOST, LEAST}) {
            c.refused(5, "nextGlare", no);
        }
        c.due(1, "cloud", 1).refused(8, "nextGlare", 1).due(0, "nextGlare", 0)
                .refused(5, "nextGlare", 2).due(1, "cloud", 0).due(1, "rule", 0, 24)
                .refused(8, "nextGlare", 0).due(0, "nextGlare", 1).refused(5, "nextGlare", -1);
        // at each minute of an hour, with hours on either side of it
        c = new Check().land("clock 660;", 0);
        for (int minute = 660; minute <= 780; minute += 13) {
            c.due(1, "rule", 11, 12).due(minute < 720 ? 0 : 2100 - minute, "nextGlare", 1)
                    .due(minute < 720 ? 720 - minute : 0, "nextGlare", 0).due(1, "rule", 12, 13)
                    .due(minute < 720 ? 720 - minute : minute < 780 ? 0 : 1380, "nextGlare", 1)
                    .due(minute >= 720 && minute < 780 ? 780 - minute : 0, "nextGlare", 0)
                    .due(1, "rule", 23, 24).due(1380 - minute, "nextGlare", 1)
                    .due(1, "rule", 0, 1).due(1440 - minute, "nextGlare", 1)
                    .due(1, "rule", 0, 23).due(1380 - minute, "nextGlare", 0)
                    .due(1, "rule", 1, 24).due(1440 - minute, "nextGlare", 0)
                    .due(0, "passes", 13);
        }
        // 1,439 minutes at most: glare is just over
        c = new Check().land("glare 5 to 6;clock 360;", 0).due(1380, "nextGlare", 1)
                .due(1, "rule", 6, 7).due(0, "nextGlare", 1).due(60, "nextGlare", 0);
        c.due(1, "rule", 7, 24).due(60, "nextGlare", 1).due(0, "nextGlare", 0);
    }
}
