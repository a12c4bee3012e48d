/** Part 2 of the terms, sentence by sentence: MINUTES, GLARE, who CAN go, GO, LEAD, OWES. */
public final class Terms2Test {
    /** 0 sighted, 1 with GLASSES, 2 blind, 3 blind and knows road 0, 4 sighted and knows it. */
    private static final String FIVE = "habit 2;place a;place b;place c;road a b minutes 5;"
            + "road b c minutes 5 smells;sighted s at b;sighted g at b glasses;blind x at b;"
            + "blind k at b;sighted e at b;knows k a b;knows e a b;";
    /** A road of 20 minutes; 0 sighted, 1 with GLASSES, 2 sighted, 3, 4 and 5 blind. */
    private static final String SIX = "place a;place b;road a b minutes 20;sighted s at a;"
            + "sighted g at a glasses;sighted t at a;blind x at a;blind y at a;blind z at a;";

    private Terms2Test() {
    }

    public static void main(String[] args) {
        minutesCountOn();
        hours();
        glareIfNotCloudy();
        whoCan();
        habitTimesOrMore();
        goTakesAllItsMinutes();
        goWhatCantBe();
        asManyAsRope();
        theyNeedNotBeAble();
        asWithWhoLeads();
        aMinuteGoesBy();
        whoCanGoItNow();
        aMinuteLessOrLost();
        nothingIsLeft();
        ninetyNineAtMost();
        owesTheMinutesOfThatRoad();
        owesTheOtherWayRound();
        owesStops();
        Check.end("Terms2Test");
    }

    private static void canAll(Check c, String row) {
        for (int person = 0; person < 5; person++) {
            for (int road = 0; road < 2; road++) {
                c.due(row.charAt(person * 3 + road) - '0', "can", person, road);
            }
        }
    }

    /** "MINUTES count on (to 99,999)." */
    private static void minutesCountOn() {
        Check c = new Check().land("clock 0;place a;sighted s at a;", 1);
        for (int i = 1; i <= 100; i++) {
            c.due(0, "passes", 999).due(i * 999, "many", 5);
        }
        c.refused(7, "passes", 100).due(0, "passes", 98).due(99998, "many", 5)
                .refused(7, "passes", 2).due(0, "passes", 1).due(99999, "many", 5)
                .refused(7, "passes", 1).refused(7, "passes", 999).refused(5, "passes", 0)
                .refused(5, "passes", 1000).due(99999, "many", 5).due(1, "many", 9)
                .due(1, "glareAt", 99999).refused(5, "glareAt", 100000);
    }

    /** "HOUR: MINUTE by 60, rounded down, its rest by 24." "GLARE is .. in the HOURS from FROM on,
     * ahead of TILL." */
    private static void hours() {
        Check c = new Check().due(0, "glareAt", 599).due(1, "glareAt", 600).due(1, "glareAt", 959)
                .due(0, "glareAt", 960);
        for (int from = 0; from < 24; from++) {
            for (int till = from + 1; till <= 24; till++) {
                c.due(1, "rule", from, till);
                for (int day = 0; day <= 69; day += 23) {
                    edges(c, day * 1440, from, till);
                }
            }
        }
    }

    private static void edges(Check c, int day, int from, int till) {
        isGlaring(c, 1, day + from * 60);
        isGlaring(c, 1, day + till * 60 - 1);
        isGlaring(c, from == 0 && till == 24 ? 1 : 0, day + from * 60 - 1);
        isGlaring(c, from == 0 && till == 24 ? 1 : 0, day + till * 60);
    }

    private static void isGlaring(Check c, int is, int minute) {
        if (minute >= 0 && minute <= 99999) {
            c.due(is, "glareAt", minute);
        }
    }

    /** "GLARE is, if it is not CLOUDY" */
    private static void glareIfNotCloudy() {
        Check c = new Check().land("glare 0 to 24;clock 700;place a;", 0).due(1, "many", 9)
                .due(1, "glareAt", 0).due(1, "cloud", 1).due(0, "many", 9).due(0, "glareAt", 0)
                .due(0, "glareAt", 99999).due(1, "cloud", 0).due(1, "many", 9);
        // as minutes go by: from 9:59 on, and at 15:59
        c = new Check().land("clock 599;place a;", 0).due(0, "many", 9).due(0, "passes", 1)
                .due(1, "many", 9).due(0, "passes", 359).due(959, "many", 5).due(1, "many", 9)
                .due(0, "passes", 1).due(0, "many", 9).due(0, "passes", 999).due(0, "passes", 81)
                .due(2040, "many", 5).due(1, "many", 9);
    }

    /** "A PERSON CAN go a ROAD now: a SIGHTED one if there is no GLARE, or with GLASSES; a BLIND one
     * if it SMELLS, or he has gone it HABIT times or more." */
    private static void whoCan() {
        Check c = new Check().land("clock 599;" + FIVE, 5);
        canAll(c, "11 11 01 11 11");
        c.due(0, "passes", 1);
        canAll(c, "00 11 01 11 00");
        c.due(1, "cloud", 1);
        canAll(c, "11 11 01 11 11");
        c.due(1, "cloud", 0).due(0, "passes", 360);
        canAll(c, "11 11 01 11 11");
        c.due(1, "plant", 0, 1).due(1, "plant", 1, 0).due(1, "rule", 0, 24);
        canAll(c, "00 11 10 10 00");
        // a blind one has no use of cloud or night
        c.due(1, "plant", 0, 0).due(1, "cloud", 1);
        canAll(c, "11 11 00 10 11");
        c.due(1, "cure", 4, 0).due(1, "cure", 3, 1).due(1, "cure", 1, 0).due(1, "cloud", 0);
        canAll(c, "00 00 00 00 10");
    }

    /** "or he has gone it HABIT times or more" */
    private static void habitTimesOrMore() {
        for (int habit = 1; habit <= 9; habit++) {
            Check c = new Check().land("clock 0;habit " + habit + ";place a;place b;"
                    + "road a b minutes 1;sighted s at a;blind x at a;", 2);
            for (int times = 0; times <= 10; times++) {
                int here = times % 2;
                c.due(times, "gone", 1, 0).due(times >= habit ? 1 : 0, "can", 1, 0)
                        .due(times >= habit ? 3 : 1 << here, "reach", 1).due(1, "lead", 0, 2, 1 - here)
                        .due(3, "passes", 1);
            }
        }
    }

    /** "GO to a PLACE: .. he is on the ROAD, LEFT: all its MINUTES" */
    private static void goTakesAllItsMinutes() {
        new Check().land("clock 0;" + SIX, 6).due(20, "go", 0, 1).due(20, "person", 0, 2)
                .refused(8, "person", 0, 0).due(1, "person", 0, 1).refused(8, "person", 0, 3)
                .due(0, "person", 0, 4).due(0, "gone", 0, 0).due(1, "many", 12);
        for (int minutes : new int[] {1, 99}) {
            new Check().land("clock 0;place a;place b;road a b minutes " + minutes
                    + ";sighted s at b;", 1).due(minutes, "go", 0, 0).due(minutes, "person", 0, 2)
                    .due(minutes, "arrives", 0).due(1, "passes", minutes).due(0, "person", 0, 0);
        }
    }

    /** "one who is AT a PLACE, by the ROAD from there, which he CAN go" */
    private static void goWhatCantBe() {
        Check c = new Check().land("clock 599;" + FIVE, 5).refused(9, "go", 0, 1)
                .refused(9, "go", 2, 0).due(5, "go", 2, 2).refused(9, "go", 2, 0)
                .refused(9, "go", 2, 2).due(4, "passes", 5).refused(9, "go", 2, 0)
                .refused(9, "go", 0, 0).refused(9, "go", 0, 2).due(5, "go", 1, 0)
                .due(5, "go", 3, 0).refused(9, "go", 4, 0).due(10, "passes", 5)
                .refused(9, "go", 1, 2).due(5, "go", 1, 1);
        c.due(1, "cloud", 1).due(5, "go", 0, 0).refused(9, "go", 0, 1);
    }

    /** "LEAD: likewise with some others, AT the same PLACE, as many as ROPE at most" */
    private static void asManyAsRope() {
        for (int rope = 1; rope <= 9; rope++) {
            Check c = new Check().land("rope " + rope + ";" + Lands.full(), 8);
            if (rope < 7) {
                c.refused(5, "lead", 7, (2 << rope) - 1, 1);
            }
            c.due(1, "lead", 7, rope < 7 ? (1 << rope) - 1 : 127, 1)
                    .due(rope < 7 ? (1 << rope) - 1 : 127, "many", 13);
        }
        // of the first of all people, too, and those with the highest numbers
        new Check().land("rope 2;" + Lands.full(), 8).refused(5, "lead", 0, 224, 1)
                .refused(5, "lead", 0, 14, 1).due(1, "lead", 0, 192, 1).due(193, "many", 12)
                .due(192, "many", 13).refused(9, "lead", 1, 192, 1).refused(9, "lead", 1, 132, 1)
                .due(1, "lead", 1, 36, 1).due(228, "many", 13);
    }

    /** "(they need not be able to)" */
    private static void theyNeedNotBeAble() {
        new Check().land("clock 0;" + SIX, 6).due(0, "can", 3, 0).due(20, "lead", 0, 56, 1)
                .due(57, "passes", 20);
        // in the glare a blind one leads the sighted where it smells
        new Check().land("clock 700;" + FIVE, 5).due(0, "can", 0, 1).due(0, "can", 4, 1)
                .due(5, "lead", 2, 17, 2).due(21, "passes", 5).refused(9, "lead", 0, 4, 1);
    }

    /** "where and how they are is as with who LEADS" */
    private static void asWithWhoLeads() {
        Check c = new Check().land("clock 590;" + SIX, 6).due(20, "lead", 2, 25, 1);
        // 10 minutes to the glare, 360 of it, and 10 behind it
        allAs(c, 20, 380, 0);
        c.due(0, "passes", 15);
        allAs(c, 10, 365, 5);
        c.due(2, "person", 0, 3).due(2, "person", 3, 3).due(2, "person", 4, 3)
                .refused(8, "person", 2, 3).refused(8, "person", 1, 3);
    }

    private static void allAs(Check c, int left, int arrives, int lost) {
        for (int p : new int[] {0, 2, 3, 4}) {
            c.refused(8, "person", p, 0).due(1, "person", p, 1).due(left, "person", p, 2)
                    .due(arrives, "arrives", p).due(lost, "person", p, 4);
        }
    }

    /** "A MINUTE goes by: PERSON by PERSON, by numbers, of those who are on a ROAD by themselves, or
     * LEAD there" */
    private static void aMinuteGoesBy() {
        Check c = new Check().land("clock 590;" + SIX, 6).due(20, "lead", 0, 8, 1)
                .due(20, "lead", 1, 16, 1).due(20, "go", 2, 1).due(0, "passes", 15)
                .due(605, "many", 5);
        int[] left = {10, 5, 10, 10, 5, 0};
        int[] lost = {5, 0, 5, 5, 0, 0};
        for (int p = 0; p < 6; p++) {
            c.due(left[p], "person", p, 2).due(lost[p], "person", p, 4);
        }
        c.due(15, "many", 14).due(18, "passes", 5).due(30, "many", 14).due(13, "many", 12)
                .due(0, "passes", 350).due(960, "many", 5).due(1080, "many", 14)
                .due(0, "passes", 9).due(13, "passes", 1).due(1080, "many", 14)
                .due(0, "many", 12).due(970, "many", 5);
    }

    /** "who CAN go it now has a MINUTE less LEFT; else he .. LOST" - at each edge of the glare */
    private static void whoCanGoItNow() {
        Check c = new Check().land("clock 598;" + SIX, 6).due(20, "go", 0, 1).due(0, "passes", 1)
                .due(19, "person", 0, 2).due(0, "person", 0, 4).due(0, "passes", 1)
                .due(18, "person", 0, 2).due(0, "person", 0, 4).due(0, "passes", 1)
                .due(18, "person", 0, 2).due(1, "person", 0, 4).due(0, "passes", 359)
                .due(960, "many", 5).due(18, "person", 0, 2).due(360, "person", 0, 4)
                .due(0, "passes", 1).due(17, "person", 0, 2).due(360, "person", 0, 4);
        // what he wears, what it is like, and who he is count minute by minute
        c = new Check().land("clock 700;" + SIX, 6).due(20, "go", 1, 1).due(0, "passes", 2)
                .due(1, "glasses", 1, 0).due(0, "passes", 3).due(18, "person", 1, 2)
                .due(3, "person", 1, 4).due(1, "cloud", 1).due(0, "passes", 4)
                .due(14, "person", 1, 2).due(1, "cure", 1, 0).due(0, "passes", 5)
                .due(14, "person", 1, 2).due(8, "person", 1, 4).due(1, "plant", 0, 1)
                .due(0, "passes", 6).due(8, "person", 1, 2).due(1, "plant", 0, 0)
                .due(1, "cloud", 0).due(1, "cure", 1, 1).due(1, "rule", 1, 2).due(2, "passes", 8)
                .due(8, "person", 1, 4).due(728, "many", 5);
    }

    /** "else he, and all whom he LEADS, are LOST a MINUTE more each" - in each minute that is lost */
    private static void aMinuteLessOrLost() {
        Check c = new Check().land("clock 595;" + SIX, 6).due(20, "lead", 0, 56, 1)
                .due(0, "passes", 6).due(4, "many", 14).due(0, "passes", 10).due(44, "many", 14)
                .due(1, "turn", 0).due(44, "many", 14).due(0, "passes", 5).due(44, "many", 14);
        for (int p : new int[] {0, 3, 4, 5}) {
            c.due(11, "person", p, 4);
        }
        c.due(0, "person", 1, 4);
    }

    /** "If nothing is LEFT he is AT the PLACE where the ROAD leads, and all whom he LEADS; each of
     * them has gone that ROAD once more" "Then the MINUTE is 1 more." */
    private static void nothingIsLeft() {
        Check c = new Check().land("clock 580;" + SIX, 6).due(20, "lead", 0, 56, 1)
                .due(0, "passes", 19).due(1, "person", 5, 2).due(57, "passes", 1)
                .due(600, "many", 5).due(0, "many", 14);
        for (int p : new int[] {0, 3, 4, 5}) {
            c.due(1, "person", p, 0).refused(8, "person", p, 1).due(0, "person", p, 2)
                    .refused(8, "person", p, 3).due(1, "gone", p, 0);
        }
        c.due(0, "gone", 1, 0).due(0, "person", 1, 0).due(0, "gone", 2, 0);
        // who comes stays there, however many minutes are left of them
        new Check().land("clock 0;" + SIX, 6).due(20, "go", 0, 1).due(1, "passes", 500)
                .due(1, "person", 0, 0).due(1, "gone", 0, 0).due(500, "many", 5)
                .due(0, "passes", 500);
    }

    /** "(99 at most)" */
    private static void ninetyNineAtMost() {
        Check c = new Check().land("clock 0;place a;place b;road a b minutes 1;"
                + "sighted s at a glasses;blind x at a;", 2)
                .days("loop 49;lead s x b;wait 1;lead s x a;wait 1;end;", 5)
                .due(197, "live", 0).due(98, "gone", 0, 0).due(98, "gone", 1, 0);
        for (int i = 0; i < 3; i++) {
            c.due(1, "lead", 0, 2, 1 - i % 2).due(3, "passes", 1).due(99, "gone", 0, 0)
                    .due(99, "gone", 1, 0);
        }
        c.due(101, "owes", 1, 0);
    }

    /** "each that was LED OWES him the MINUTES of that ROAD more" */
    private static void owesTheMinutesOfThatRoad() {
        Check c = new Check().land("clock 590;" + SIX, 6).due(20, "lead", 0, 56, 1)
                .due(0, "passes", 379).due(0, "owes", 3, 0).due(57, "passes", 1)
                .due(20, "owes", 3, 0).due(20, "owes", 4, 0).due(20, "owes", 5, 0)
                .due(0, "owes", 3, 4).due(0, "owes", 1, 0).due(60, "net", 0).due(-20, "net", 3);
        c.due(20, "lead", 0, 8, 0).due(9, "passes", 20).due(40, "owes", 3, 0)
                .due(20, "owes", 4, 0).due(20, "lead", 0, 2, 1).due(3, "passes", 20)
                .due(20, "owes", 1, 0).due(100, "net", 0);
        // who turns back is owed nothing
        new Check().land("clock 0;" + SIX, 6).due(20, "lead", 0, 8, 1).due(0, "passes", 19)
                .due(1, "turn", 0).due(0, "owes", 3, 0).due(0, "net", 0).due(0, "gone", 3, 0);
    }

    /** "OWES: what one OWES another one, the other one OWES him so much less than nothing" */
    private static void owesTheOtherWayRound() {
        new Check().land("clock 0;place a;place b;road a b minutes 7 smells;"
                + "sighted s at a;blind x at a;", 2)
                .due(7, "lead", 0, 2, 1).due(3, "passes", 7).due(7, "owes", 1, 0)
                .due(-7, "owes", 0, 1).due(7, "lead", 1, 1, 0).due(3, "passes", 7)
                .due(0, "owes", 1, 0).due(0, "owes", 0, 1).due(7, "lead", 1, 1, 1)
                .due(3, "passes", 7).due(-7, "owes", 1, 0).due(7, "owes", 0, 1)
                .due(7, "net", 1).due(-7, "net", 0);
    }

    /** "(from -9,999 to 9,999; no more comes to it then)" */
    private static void owesStops() {
        // 101 times 99 minutes are 9,999
        Check c = new Check().land("clock 0;place a;place b;road a b minutes 99 smells;"
                + "sighted s at a glasses;blind x at a;", 2)
                .days("loop 50;lead s x b;wait 99;lead s x a;wait 99;end;", 5)
                .due(201, "live", 0).due(9900, "owes", 1, 0).due(-9900, "owes", 0, 1);
        for (int i = 0; i < 2; i++) {
            c.due(99, "lead", 0, 2, 1 - i).due(3, "passes", 99).due(9999, "owes", 1, 0)
                    .due(-9999, "owes", 0, 1).due(9999, "net", 0).due(-9999, "net", 1);
        }
        c.due(99, "lead", 1, 1, 1).due(3, "passes", 99).due(9900, "owes", 1, 0)
                .due(-9900, "owes", 0, 1).due(0, "dearest", 1).due(-9900, "settle", 0, 1)
                .due(0, "owes", 1, 0);
        // 200 times 50 minutes are one too many
        Check d = new Check().land("clock 0;place a;place b;road a b minutes 50;"
                + "sighted s at a glasses;blind x at a;blind y at a;", 3)
                .days("loop 66;lead s x b;wait 50;lead s x a;wait 50;end;", 5)
                .due(265, "live", 0).due(6600, "owes", 1, 0)
                .days("loop 33;lead s x b;wait 50;lead s x a;wait 50;end;", 5)
                .due(133, "live", 0).due(9900, "owes", 1, 0).due(50, "lead", 0, 6, 1)
                .due(7, "passes", 50).due(9950, "owes", 1, 0).due(50, "lead", 0, 6, 0)
                .due(7, "passes", 50).due(9999, "owes", 1, 0).due(-9999, "owes", 0, 1)
                .due(100, "owes", 2, 0).due(10099, "net", 0);
        d.due(50, "lead", 0, 6, 1).due(7, "passes", 50).due(9999, "owes", 1, 0)
                .due(10149, "net", 0);
    }
}
