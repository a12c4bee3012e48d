/** Part 4 of the terms, sentence by sentence: the text of DAYS, STEPS, draws, MARKS, FRACTIONS. */
public final class Terms4Test {
    private static final String[] NO_STEPS = {"glare", "to", "clock", "rope", "habit", "odds",
        "place", "road", "minutes", "smells", "sighted", "at", "glasses", "blind", "knows", "lost",
        "end"};
    private static final String[] STEP_WORDS = {"wait", "go", "lead", "any", "cloud", "clear",
        "when", "loop", "stop"};
    /** 298 STEPS that miss nothing but time: 1 and 99 by 3. */
    private static final String STEPS_298 = "loop 99;wait 1;wait 1;wait 1;end;";

    private Terms4Test() {
    }

    public static void main(String[] args) {
        threeHundredBytes();
        noneAtFirst();
        textIsSteps();
        stepsInFull();
        testsInFull();
        faultsOneAndTwo();
        ends();
        faultThree();
        faultFour();
        faultFive();
        faultSix();
        faultSeven();
        firstAndLeast();
        waitAndLead();
        anyByDraws();
        whatCantBeIsMissed();
        waitsAsAWhole();
        whenAt();
        whenGlare();
        whenLost();
        loopAsOften();
        stop();
        threeHundredSteps();
        countedOnceFromAhead();
        staysSo();
        drawsInNumbers();
        marksAtMostThree();
        fractions();
        Check.end("Terms4Test");
    }

    /** "DAYS are a TEXT of at most 300 bytes, of such TOKENS" */
    private static void threeHundredBytes() {
        Check c = Check.ring().days("stop;" + Lands.blanks(295), 1)
                .days(Lands.blanks(295) + "stop;", 1).days(Lands.blanks(300), 0)
                .faulty("days", Lands.blanks(299) + "#", 1, 299)
                .faulty("days", Lands.blanks(296) + "stop", 2, 300)
                .faultyPart("days", Lands.blanks(290) + "stop;any;any;any;", 298, 2, 298);
        c.feed("stop;" + Lands.blanks(315)).refused(5, "days", 301).refused(5, "days", 320)
                .refused(5, "days", 321).due(1, "days", 300).refused(5, "days", 1);
    }

    /** "(none at first)" */
    private static void noneAtFirst() {
        new Check().refused(8, "live", 0).refused(8, "mean", 0, 1);
        Check.ring().refused(8, "live", 9999).refused(8, "mean", 9980, 20).days("", 0)
                .due(0, "live", 0).due(1, "mean", 0, 1);
    }

    /** "DAYS: {STEP}." */
    private static void textIsSteps() {
        Check.ring().days("", 0).days("\n  \n", 0).days("any;", 1).days(" any \n ; \n any;", 2)
                .days("wait5;loop2;any;end;", 3).faulty("days", ";", 2, 0)
                .faulty("days", "any;;", 2, 4).faulty("days", "5", 2, 0)
                .faulty("days", "<", 2, 0).faulty("days", "ann", 2, 0)
                .faulty("days", "anyany;", 2, 0).faulty("days", "goann well;", 2, 0);
    }

    /** "STEP: wait NUMBER ; or go NAME NAME ; or lead NAME NAME NAME ; or any ; or cloud ; or clear ;
     * or when TEST ; {STEP} end ; or loop NUMBER ; {STEP} end ; or stop ;" - each of them, and what is
     * too much or too little of it */
    private static void stepsInFull() {
        Check c = Check.ring().days("wait 600;go ann well;lead ann cid hill;any;cloud;clear;"
                + "when at ann town;end;when glare;end;when lost ann<1;end;loop 2;end;stop;", 11);
        c.faulty("days", "wait", 2, 4).faulty("days", "wait;", 2, 4)
                .faulty("days", "wait 5", 2, 6).faulty("days", "wait 5 5;", 2, 7)
                .faulty("days", "wait ann;", 2, 5).faulty("days", "wait = 5;", 2, 5)
                .faulty("days", "go", 2, 2).faulty("days", "go;", 2, 2)
                .faulty("days", "go ann;", 2, 6).faulty("days", "go ann", 2, 6)
                .faulty("days", "go ann well", 2, 11).faulty("days", "go ann well hill;", 2, 12)
                .faulty("days", "go 5 well;", 2, 3).faulty("days", "go ann 5;", 2, 7)
                .faulty("days", "lead", 2, 4).faulty("days", "lead ann;", 2, 8)
                .faulty("days", "lead ann cid;", 2, 12).faulty("days", "lead ann cid hill", 2, 17)
                .faulty("days", "lead ann cid hill well;", 2, 18)
                .faulty("days", "lead ann 5", 2, 9).faulty("days", "lead ann cid <", 2, 13);
        for (String word : new String[] {"any", "cloud", "clear", "stop"}) {
            int n = word.length();
            c.faulty("days", word, 2, n).faulty("days", word + " 5;", 2, n + 1)
                    .faulty("days", word + " ann;", 2, n + 1)
                    .faulty("days", word + " " + word + ";", 2, n + 1);
        }
        c.faulty("days", "loop", 2, 4).faulty("days", "loop;", 2, 4)
                .faulty("days", "loop 5", 2, 6).faulty("days", "loop 5 5;", 2, 7)
                .faulty("days", "loop any;", 2, 5);
    }

    /** "TEST: at NAME NAME, or glare, or lost NAME COMPARES NUMBER. COMPARES: < or > or =" */
    private static void testsInFull() {
        Check c = Check.ring().days("when lost ann<5;end;when lost ann > 5;end;when lost ann= 5;"
                + "end;when lost ann =0;end;when lost ann > 9999;end;", 5);
        c.faulty("days", "when", 2, 4).faulty("days", "when;", 2, 4)
                .faulty("days", "when ann;", 2, 5).faulty("days", "when cloud;", 2, 5)
                .faulty("days", "when 5;", 2, 5).faulty("days", "when <;", 2, 5)
                .faulty("days", "when at;", 2, 7).faulty("days", "when at ann;", 2, 11)
                .faulty("days", "when at ann well", 2, 16)
                .faulty("days", "when at ann well hill;", 2, 17)
                .faulty("days", "when glare", 2, 10).faulty("days", "when glare ann;", 2, 11)
                .faulty("days", "when lost;", 2, 9).faulty("days", "when lost ann;", 2, 13)
                .faulty("days", "when lost ann 5;", 2, 14).faulty("days", "when lost ann at;", 2, 14)
                .faulty("days", "when lost ann <;", 2, 15).faulty("days", "when lost ann < ann;", 2, 16)
                .faulty("days", "when lost ann <> 5;", 2, 15)
                .faulty("days", "when lost ann < 5", 2, 17)
                .faulty("days", "when lost ann < 5 5;", 2, 18)
                .faulty("days", "when lost ann ; 5", 2, 14);
    }

    /** "FAULTS: 1, 2 as above" */
    private static void faultsOneAndTwo() {
        Check c = Check.ring();
        for (String text : new String[] {"#", "any#", "any;#", "wait #", "wait 5#", "go #",
            "go ann #", "go ann well#", "lead #", "lead ann #", "lead ann cid #",
            "lead ann cid well #", "cloud#", "clear#", "stop#", "when #", "when at #",
            "when at ann #", "when at ann well#", "when glare#", "when lost #", "when lost ann #",
            "when lost ann <#", "when lost ann <5#", "loop #", "loop 5#", "loop 5;#",
            "loop 5;end#", "loop 5;end;#"}) {
            c.faulty("days", text, 1, text.length() - 1);
        }
        c.faulty("days", "wait 00005;", 1, 5).faulty("days", "loop 12345;", 1, 5)
                .faulty("days", "when lost ann < 10000;", 1, 16)
                .faulty("days", "go 12345", 1, 3).faulty("days", "12345", 1, 0)
                .faulty("days", "any;\t", 1, 4).faulty("days", "any\r;", 1, 3)
                .faulty("days", "Any;", 1, 0).faulty("days", "\u00e4ny;", 1, 0)
                .days("wait 0005;", 1).days("loop 0099;end;", 1);
        for (String word : NO_STEPS) {
            c.faulty("days", word + ";", 2, 0).faulty("days", "any;" + word + " 5;", 2, 4);
        }
        for (String word : Lands.KEYWORDS) {
            c.faulty("days", "go " + word, 2, 3).faulty("days", "go ann " + word, 2, 7)
                    .faulty("days", "lead " + word, 2, 5).faulty("days", "lead ann " + word, 2, 9)
                    .faulty("days", "lead ann cid " + word, 2, 13)
                    .faulty("days", "when at " + word, 2, 8)
                    .faulty("days", "when at ann " + word, 2, 12)
                    .faulty("days", "when lost " + word, 2, 10);
        }
        c.faulty("days", "go abcdefghi", 2, 3).faulty("days", "go ann abcdefghi", 2, 7)
                .faulty("days", "lead ann abcdefghi", 2, 9)
                .faulty("days", "when lost abcdefghi", 2, 10).faulty("days", "abcdefghi", 2, 0);
    }

    /** "(an end without a beginning; the text's end ahead of an end: 2)" */
    private static void ends() {
        Check.ring().faulty("days", "end;", 2, 0).faulty("days", "end", 2, 0)
                .faulty("days", "any;end;", 2, 4).faulty("days", "loop 1;end;end;", 2, 11)
                .faulty("days", "loop 1;loop 1;end;end;end;", 2, 22)
                .faulty("days", "when glare;end;end;", 2, 15)
                .faulty("days", "loop 1;", 2, 7).faulty("days", "loop 1;  \n", 2, 10)
                .faulty("days", "loop 1;any;", 2, 11).faulty("days", "loop 1;end", 2, 10)
                .faulty("days", "loop 1;end any;", 2, 11).faulty("days", "loop 1;end 1;", 2, 11)
                .faulty("days", "loop 1;loop 1;end;", 2, 18)
                .faulty("days", "when glare;", 2, 11).faulty("days", "when glare;stop;", 2, 16)
                .faulty("days", "loop 1;when glare;loop 1;end;end;", 2, 33)
                .days("loop 1;when glare;loop 1;end;end;end;", 3);
    }

    /** "3 a NAME that is no such one (PEOPLE; a PLACE behind go's PERSON, lead's two, at's
     * PERSON)" */
    private static void faultThree() {
        Check c = Check.ring();
        for (String no : new String[] {"town", "eva", "annn", "an", "abcdefgh"}) {
            c.faulty("days", "go " + no + " well;", 3, 3).faulty("days", "lead " + no, 3, 5)
                    .faulty("days", "lead ann " + no, 3, 9).faulty("days", "when at " + no, 3, 8)
                    .faulty("days", "when lost " + no, 3, 10);
        }
        for (String no : new String[] {"ann", "bob", "eva", "tow", "towns"}) {
            c.faulty("days", "go ann " + no, 3, 7).faulty("days", "lead ann cid " + no, 3, 13)
                    .faulty("days", "when at ann " + no, 3, 12);
        }
        // a place where one is, or that no road leads to, is one
        c.days("go ann town;go ann mine;lead ann dot town;when at dot hill;end;", 4)
                .due(4, "live", 0).due(3, "lived", 0);
        new Check().faulty("days", "go ann town;", 3, 3).faulty("days", "when lost ann", 3, 10)
                .days("any;wait 1;cloud;clear;stop;", 5);
        // those of the LAND that is there, not of the one ahead
        Check.ring().land("place here;blind eva at here;", 1).faulty("days", "go ann here;", 3, 3)
                .faulty("days", "go eva town;", 3, 7).days("go eva here;", 1);
    }

    /** "4 a NUMBER that can't be": wait (1 to 600), loop (1 to 99), lost (0 to 9,999) */
    private static void faultFour() {
        Check.ring().days("wait 1;", 1).days("wait 600;", 1).faulty("days", "wait 0;", 4, 5)
                .faulty("days", "wait 601;", 4, 5).faulty("days", "wait 9999;", 4, 5)
                .days("loop 1;end;", 1).days("loop 99;end;", 1).faulty("days", "loop 0;", 4, 5)
                .faulty("days", "loop 100;", 4, 5).faulty("days", "loop 9999;", 4, 5)
                .days("when lost ann = 0;end;when lost ann = 9999;end;", 2)
                .faulty("days", "when lost ann = 10000;", 1, 16).faulty("days", "wait 0", 4, 5);
    }

    /** "5 a PERSON and itself (at the second NAME)" */
    private static void faultFive() {
        Check.ring().faulty("days", "lead ann ann well;", 5, 9)
                .faulty("days", "lead  dot \n dot", 5, 12).faulty("days", "lead ann ann #", 5, 9)
                .days("lead ann bob town;lead bob ann town;", 2);
    }

    /** "6 a 31st STEP (at its WORD; end is none)" */
    private static void faultSix() {
        Check c = Check.ring().days(Lands.steps("any;", 29), 29).days(Lands.steps("any;", 30), 30);
        for (String word : STEP_WORDS) {
            c.faulty("days", Lands.steps("any;", 30) + word, 6, 120)
                    .faulty("days", Lands.steps("any;", 30) + "\n " + word + " #", 6, 122);
        }
        String ends = Lands.steps("loop 2;any;end;", 15);
        c.days(ends, 30).faulty("days", ends + "stop;", 6, ends.length())
                .faulty("days", ends + "end;", 2, ends.length());
        // each of them one that has an end
        String all = Lands.steps("loop 1;end;", 27);
        c.days(all, 27).faulty("days", Lands.steps("any;", 29) + "loop 1;any;end;", 6, 123)
                .days(Lands.steps("any;", 29) + "loop 1;end;", 30)
                .days(Lands.steps("any;", 27) + "loop 1;loop 1;when glare;end;end;end;", 30)
                .faulty("days", Lands.steps("any;", 30) + "end;", 2, 120)
                .faulty("days", Lands.steps("any;", 30) + "eva;", 2, 120)
                .faulty("days", Lands.steps("any;", 30) + "#", 1, 120);
    }

    /** "7 a when, loop within three others (at its WORD)" */
    private static void faultSeven() {
        String[] outer = {"loop 1;", "when glare;", "when at ann well;", "when lost ann<1;"};
        Check c = Check.ring();
        for (String one : outer) {
            for (String two : outer) {
                String three = one + two + one;
                c.days(three + "any;wait 1;stop;end;end;end;", 6)
                        .days(three + "end;" + two + "end;end;end;", 4)
                        .faulty("days", three + "loop 1;", 7, three.length())
                        .faulty("days", three + "when", 7, three.length())
                        .faulty("days", three + "any; loop #", 7, three.length() + 5)
                        .faulty("days", three + "end;loop 1;when glare;", 7,
                                three.length() + 11);
            }
        }
        c.days("loop 1;end;loop 1;end;loop 1;end;loop 1;end;", 4)
                .days("loop 1;loop 1;loop 1;end;end;end;loop 1;loop 1;loop 1;end;end;end;", 6);
    }

    /** "of one TOKEN the least kind", "the first along the text" */
    private static void firstAndLeast() {
        String deep = Lands.steps("any;", 27) + "loop 1;loop 1;loop 1;";
        Check.ring().faulty("days", deep + "loop 1;", 6, deep.length())
                .faulty("days", deep + "when glare;", 6, deep.length())
                .faulty("days", "go eva eva;#", 3, 3).faulty("days", "wait 601;#", 4, 5)
                .faulty("days", "#wait 601;", 1, 0).faulty("days", "lead ann ann eva;", 5, 9)
                .faulty("days", "lead eva eva town;", 3, 5).faulty("days", "wait 60100;", 1, 5)
                .faulty("days", "loop 0;end;end;", 4, 5).faulty("days", "end;#", 2, 0)
                .faulty("days", "lead ann town well;", 3, 9);
    }

    /** "wait: so many MINUTES (1 to 600)"; "lead: the first LEADS the second to a PLACE" */
    private static void waitAndLead() {
        Check.ring().days("lead cid ann well;wait 1;", 2).due(2, "live", 0).due(2, "person", 0, 3)
                .due(19, "person", 0, 2).due(571, "many", 5).days("wait 18;wait 1;", 2)
                .due(2, "live", 0).due(1, "person", 0, 0).due(20, "owes", 0, 2).due(2, "lived", 2)
                .due(19, "lived", 1).days("wait 600;", 1).due(1, "live", 0).due(1190, "many", 5)
                .due(600, "lived", 1).due(0, "lived", 2);
    }

    /** A star of so many places, all so many people in its midst, and DAYS of 6 anys. */
    private static NoonGuides star(int places, int people) {
        StringBuilder text = new StringBuilder(Lands.places(places));
        for (int i = 1; i < places; i++) {
            text.append(Lands.road((char) ('a' + i), 'a', 9, true));
        }
        for (int i = 0; i < people; i++) {
            text.append("blind ").append((char) ('q' + i)).append(" at a;");
        }
        NoonGuides x = new NoonGuides();
        feed(x, text.toString());
        x.land(text.length());
        feed(x, Lands.steps("any;", 6));
        x.days(24);
        return x;
    }

    private static void feed(NoonGuides x, String text) {
        for (long[] five : Calls.feeds(text)) {
            Calls.on(x, "feed", five);
        }
    }

    /** "any: a PERSON by a draw by how many there are GOES to a PLACE by a draw by how many there
     * are (both draws come first)" "Draws: s, at first the seed, becomes what is left of s times
     * 2,971 and 10,733 by 65,536; the draw by n is the rest of s by 8, rounded down, by n." */
    private static void anyByDraws() {
        int[][] sizes = {{8, 8}, {8, 7}, {7, 8}, {5, 3}, {3, 5}, {2, 1}, {1, 1}, {8, 1}, {2, 8}};
        for (int[] size : sizes) {
            for (int seed = 0; seed <= 9999; seed += 101) {
                NoonGuides x = star(size[0], size[1]);
                Check.same("steps", x.live(seed), 6);
                int[] goals = new int[size[1]];
                int missed = 0;
                int s = seed;
                for (int i = 0; i < 6; i++) {
                    s = (s * 2971 + 10733) % 65536;
                    int person = s / 8 % size[1];
                    s = (s * 2971 + 10733) % 65536;
                    int place = s / 8 % size[0];
                    if (place == 0 || goals[person] != 0) {
                        missed++;
                    } else {
                        goals[person] = place;
                    }
                }
                Check.same("missed by " + seed, x.lived(0), missed);
                for (int p = 0; p < size[1]; p++) {
                    Check.same("by " + seed + " to", x.person(p, 1), goals[p] == 0 ? -1 : goals[p]);
                }
            }
        }
    }

    /** "What can't be is MISSED: .. a go, lead (by any, too) that can't be, a cloud when it is
     * CLOUDY, a clear when it is not, any without PEOPLE (no draws)." */
    private static void whatCantBeIsMissed() {
        // cid has no road to the mine, can't go to the hill; dot is not with ann; ann is on a road
        Check c = Check.ring().days("go cid mine;go cid hill;go cid town;lead ann dot hill;"
                + "lead cid ann hill;lead dot cid well;go ann hill;go ann hill;lead ann cid hill;"
                + "lead cid ann well;", 10).due(10, "live", 0).due(9, "lived", 0)
                .due(1, "many", 12).due(0, "lived", 1).due(0, "lived", 2);
        c.days("clear;cloud;cloud;clear;clear;cloud;", 6).due(6, "live", 0).due(3, "lived", 0)
                .due(1, "many", 10).due(6, "live", 0).due(2, "lived", 0);
        new Check().days("any;any;", 2).due(2, "live", 0).due(2, "lived", 0)
                .land("place a;place b;road a b minutes 5;", 0).days("any;any;wait 3;", 3)
                .due(3, "live", 0).due(2, "lived", 0).due(3, "lived", 1);
        // one on his road is missed when the draw falls on him
        NoonGuides x = star(8, 1);
        x.live(3);
        Check.same("missed", x.lived(0), 5);
        Check.same("gone", x.many(12), 1);
    }

    /** "MINUTES beyond 99,999 (as a whole)" */
    private static void waitsAsAWhole() {
        Check c = new Check().land("clock 399;place a;place b;road a b minutes 99;"
                + "sighted s at a glasses;", 1).days(Lands.steps("wait 600;", 30), 30);
        for (int i = 0; i < 5; i++) {
            c.due(30, "live", 0).due(0, "lived", 0);
        }
        c.due(90399, "many", 5).days(Lands.steps("wait 600;", 15), 15).due(15, "live", 0)
                .due(99399, "many", 5).days("wait 600;", 1).due(1, "live", 0).due(0, "lived", 0)
                .due(99999, "many", 5);
        c.days("go s b;wait 1;wait 600;", 3).due(3, "live", 0).due(2, "lived", 0)
                .due(0, "lived", 1).due(0, "lived", 2).due(99, "person", 0, 2);
        Check d = new Check().days(Lands.steps("wait 600;", 30), 30);
        for (int i = 0; i < 5; i++) {
            d.due(30, "live", 0);
        }
        // 90,480 and 9,000 are 99,480: 519 are left
        d.days(Lands.steps("wait 600;", 15) + "wait 520;wait 518;wait 2;wait 1;wait 1;", 20)
                .due(20, "live", 0).due(3, "lived", 0).due(9519, "lived", 1).due(99999, "many", 5);
    }

    /** "when at: AT that PLACE" */
    private static void whenAt() {
        Check.ring().days("when at ann town;wait 1;end;when at ann well;wait 2;end;"
                + "when at bob well;wait 4;end;", 6).due(5, "live", 0).due(5, "lived", 1);
        Check.ring().days("go ann hill;when at ann town;wait 1;end;when at ann hill;wait 2;end;"
                + "wait 30;when at ann hill;wait 4;end;when at ann town;wait 8;end;", 10)
                .due(7, "live", 0).due(34, "lived", 1);
    }

    /** "when .. glare" */
    private static void whenGlare() {
        String days = "when glare;wait 1;end;wait 1;";
        Check.ring().due(0, "passes", 29).days(days + days + days, 9).due(8, "live", 0)
                .due(5, "lived", 1).due(604, "many", 5);
        Check.ring().due(0, "passes", 389).days(days + days, 6).due(5, "live", 0)
                .due(3, "lived", 1).due(962, "many", 5);
        Check.ring().due(0, "passes", 60).days("cloud;when glare;wait 1;end;clear;when glare;"
                + "wait 2;end;", 6).due(5, "live", 0).due(2, "lived", 1);
    }

    /** "lost: LOST MINUTES (0 to 9,999)" */
    private static void whenLost() {
        Check c = Check.ring().due(0, "passes", 20).due(30, "lead", 0, 4, 3).due(0, "passes", 14)
                .due(4, "person", 0, 4).due(1, "turn", 0);
        String[] tests = {"< 3", "< 4", "< 5", "> 3", "> 4", "> 5", "= 3", "= 4", "= 5", "> 0",
            "= 0", "< 9999"};
        int[] holds = {0, 0, 1, 1, 0, 0, 0, 1, 0, 1, 0, 1};
        for (int i = 0; i < tests.length; i++) {
            for (String who : new String[] {"ann", "cid"}) {
                c.days("when lost " + who + " " + tests[i] + ";wait 1;end;", 2)
                        .due(1 + holds[i], "live", 0).due(holds[i], "lived", 1);
            }
            c.days("when lost bob " + tests[i] + ";wait 1;end;", 2)
                    .due(tests[i].charAt(0) == '<' || tests[i].equals("= 0") ? 2 : 1, "live", 0);
        }
        // beyond 9,999
        Check far = new Check().land("glare 0 to 24;place a;place b;road a b minutes 5;"
                + "sighted s at a glasses;", 1).due(5, "go", 0, 1).due(1, "glasses", 0, 0);
        for (int i = 0; i < 10; i++) {
            far.due(0, "passes", 999);
        }
        far.due(0, "passes", 9).days("when lost s > 9999;stop;end;wait 1;when lost s > 9999;wait 1;"
                + "end;when lost s = 9999;wait 1;end;when lost s < 9999;wait 1;end;", 9)
                .due(9999, "person", 0, 4).due(6, "live", 0).due(10001, "person", 0, 4);
    }

    /** "loop n (1 to 99): as often" */
    private static void loopAsOften() {
        for (int n : new int[] {1, 2, 3, 98, 99}) {
            Check.ring().days("loop " + n + ";wait 1;end;wait 100;", 3).due(n + 2, "live", 0)
                    .due(n + 100, "lived", 1);
        }
        Check.ring().days("loop 3;loop 4;loop 5;wait 1;end;wait 1;end;wait 1;end;", 6)
                .due(1 + 3 + 12 + 60 + 12 + 3, "live", 0).due(75, "lived", 1).due(0, "lived", 4);
        Check.ring().days("loop 2;end;wait 1;loop 99;end;", 3).due(3, "live", 0)
                .due(1, "lived", 1);
        Check.ring().days("loop 2;when at ann well;wait 1;end;wait 2;end;", 4)
                .due(5, "live", 0).due(4, "lived", 1);
        Check.ring().days("when at ann well;loop 5;wait 1;end;end;when at ann town;loop 5;wait 1;"
                + "end;end;", 6).due(8, "live", 0).due(5, "lived", 1);
    }

    /** "stop: no more is done." */
    private static void stop() {
        Check.ring().days("stop;wait 1;", 2).due(1, "live", 0).due(0, "lived", 1)
                .due(0, "lived", 4);
        Check.ring().days("loop 9;when glare;stop;end;loop 2;wait 10;end;end;wait 500;", 6)
                .due(11, "live", 0).due(40, "lived", 1).due(0, "lived", 4).due(0, "lived", 0);
        Check.ring().days("when glare;stop;end;wait 1;stop;wait 1;", 5).due(3, "live", 0)
                .due(1, "lived", 1);
    }

    /** "At most 300 STEPS" */
    private static void threeHundredSteps() {
        String[] rest = {"", "wait 1;", "wait 1;wait 1;", "wait 1;wait 1;wait 1;",
            "wait 1;wait 1;stop;", "wait 1;stop;wait 1;", "stop;wait 1;wait 1;",
            "wait 1;loop 99;end;", "wait 1;loop 2;wait 1;end;", "wait 1;when at ann town;end;",
            "wait 1;when at ann town;wait 1;end;", "wait 1;when at ann well;wait 1;end;",
            "wait 1;when at ann well;wait 1;end;wait 1;", "wait 1;wait 1;loop 1;end;",
            "wait 1;wait 1;when at ann well;end;", "loop 2;end;wait 1;", "loop 2;wait 1;end;"};
        int[] steps = {298, 299, 300, 300, 300, 300, 299, 300, 300, 300, 300, 300, 300, 300, 300,
            300, 300};
        int[] minutes = {297, 298, 299, 299, 299, 298, 297, 298, 298, 298, 298, 298, 298, 299, 299,
            298, 298};
        int[] left = {0, 0, 0, 1, 1, 0, 0, 0, 1, 0, 1, 0, 1, 1, 1, 0, 1};
        for (int i = 0; i < rest.length; i++) {
            int many = 4;
            for (String step : rest[i].split(";")) {
                many += step.isEmpty() || step.equals("end") ? 0 : 1;
            }
            Check.ring().days(STEPS_298 + rest[i], many).due(steps[i], "live", 0)
                    .due(minutes[i], "lived", 1).due(left[i], "lived", 4).due(0, "lived", 0)
                    // the next one begins with none done
                    .days("wait 5;", 1).due(1, "live", 0).due(0, "lived", 4).due(5, "lived", 1);
        }
    }

    /** "(when, loop count as one each time they are come to from ahead; end does not)" */
    private static void countedOnceFromAhead() {
        Check.ring().days("loop 5;end;", 1).due(1, "live", 0);
        Check.ring().days("loop 5;loop 99;end;end;", 2).due(6, "live", 0);
        Check.ring().days("loop 5;when glare;end;end;", 2).due(6, "live", 0);
        Check.ring().days("loop 5;when at ann town;end;end;", 2).due(6, "live", 0);
        Check.ring().days("loop 99;loop 99;loop 99;end;end;end;", 3).due(300, "live", 0)
                .due(1, "lived", 4);
        Check.ring().days("loop 99;loop 2;loop 99;end;end;end;", 3).due(298, "live", 0)
                .due(0, "lived", 4);
        // missed ones count as well
        Check.ring().days("loop 99;clear;clear;clear;end;", 4).due(298, "live", 0)
                .due(297, "lived", 0);
    }

    /** "LIVED by a seed (0 to 9,999): all is as it becomes by it, and stays so." */
    private static void staysSo() {
        Check c = Check.ring().days("lead cid ann well;wait 15;cloud;", 3).due(3, "live", 0)
                .due(5, "person", 0, 2).due(585, "many", 5).due(1, "many", 10)
                .due(3, "live", 9999).due(2, "lived", 0).due(2, "lived", 2).due(1, "person", 0, 0)
                .refused(5, "live", -1).refused(5, "live", 10000);
        c.due(600, "many", 5).due(2, "lived", 2);
    }

    /** The first draws of some seeds, in numbers. */
    private static void drawsInNumbers() {
        // 0: 10,733 (by 8 1,341, by that 5), 47,980 (5,997, 5)
        NoonGuides x = star(8, 8);
        x.live(0);
        Check.same("5 to", x.person(5, 1), 5);
        // 9,999: 29,954 (by 8 3,744, by that 0), 6,179 (772, 4)
        x = star(8, 8);
        x.live(9999);
        Check.same("0 to", x.person(0, 1), 4);
        // by 7 people and 5 places: 1,341 leaves 4, 5,997 leaves 2
        x = star(5, 7);
        x.live(0);
        Check.same("4 to", x.person(4, 1), 2);
    }

    /** "MARKS, at most 3: .. all is taken back to the latest MARK, which is gone then." */
    private static void marksAtMostThree() {
        Check c = Check.ring().refused(8, "back").due(1, "mark").due(0, "passes", 1)
                .due(2, "mark").due(0, "passes", 2).due(3, "mark").due(0, "passes", 4)
                .refused(7, "mark").due(577, "many", 5).due(2, "back").due(573, "many", 5)
                .due(0, "passes", 8).due(3, "mark").due(0, "passes", 16).due(2, "back")
                .due(581, "many", 5).due(1, "back").due(571, "many", 5).due(0, "back")
                .due(570, "many", 5).refused(8, "back").due(570, "many", 5).due(1, "mark");
        c.due(0, "back");
    }

    /** "FRACTIONS are told by top() and bottom() without a common divisor, the bottom above 0; 0 is
     * 0 by 1." */
    private static void fractions() {
        Check c = Check.ring().tells(0, "top").tells(1, "bottom").due(1, "clouds", 4, 2)
                .tells(11, "top").tells(16, "bottom").due(1, "clouds", 4, 5).tells(0, "top")
                .tells(1, "bottom").due(1, "clouds", 4, 0).tells(1, "top").tells(1, "bottom");
        c.days("any;wait 40;", 2).due(1, "mean", 0, 1).tells(0, "top").tells(1, "bottom");
        c.due(0, "passes", 20).days("go ann hill;wait 16;", 2).due(1, "mean", 0, 20)
                .tells(6, "top").tells(1, "bottom").due(1, "clouds", 1, 1).tells(1, "top")
                .tells(2, "bottom");
    }
}
