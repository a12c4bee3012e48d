/** Part 1 of the terms, sentence by sentence: TRAYS, the text of a LAND and its FAULTS. */
public final class Terms1Test {
    private static final String TWO = "place a;place b;road a b minutes 5;";
    private static final String FOUR = TWO + "sighted s at a;blind x at a;";

    private Terms1Test() {
    }

    public static void main(String[] args) {
        traysAreMissingAtFirst();
        numbersAreCut();
        nineHundredBytes();
        everyByteBetweenTokens();
        tokensAsLongAsTheyGo();
        numbersOfDigits();
        textIsParts();
        partsInFull();
        namesAreNoKeywords();
        namesOfLetters();
        oneNameOneThing();
        glare();
        clock();
        rope();
        habit();
        odds();
        places();
        roads();
        people();
        knows();
        toldAhead();
        faultOneToken();
        faultTwoOrder();
        faultThreeNames();
        faultFourNumbers();
        faultFiveTwice();
        faultSixMany();
        firstAlongTheText();
        leastKindOfOneToken();
        takenInPlaceOfThatAhead();
        refusedLandLeavesTheOldOne();
        Check.end("Terms1Test");
    }

    /** "TRAYS, 0 to 3, are MISSING at first, or rows of numbers" */
    private static void traysAreMissingAtFirst() {
        Check c = new Check();
        for (int t = 0; t <= 3; t++) {
            c.refused(3, "read", t, 0).refused(3, "write", t, 0, 1).refused(3, "copyPlaces", t)
                    .refused(3, "pour", t, 0, t, 0, 0);
        }
        for (long t : new long[] {-1, 4, Lands.MOST, Lands.LEAST}) {
            c.refused(1, "read", t, 0).refused(1, "write", t, 0, 1).refused(1, "copyPlaces", t)
                    .refused(1, "tray", t, 0, 1);
        }
        c.due(1, "tray", 2, 0, 0).refused(4, "read", 2, 0).refused(3, "read", 1, 0)
                .refused(3, "read", 3, 0);
    }

    /** "of 8 bits (sort 0), 16 (1), 32 (2) or 64 (3), with sign; what is written is cut to these" */
    private static void numbersAreCut() {
        for (int sort = 0; sort <= 2; sort++) {
            long half = 1L << (8 << sort) - 1;
            Check c = new Check().due(1, "tray", sort, sort, 1);
            long[][] pairs = {{half - 1, half - 1}, {half, -half}, {half + 1, 1 - half},
                {-half, -half}, {-half - 1, half - 1}, {2 * half - 1, -1}, {2 * half, 0},
                {2 * half + 1, 1}, {-1, -1}, {-2 * half, 0}, {Long.MAX_VALUE, -1},
                {Long.MIN_VALUE, 0}, {(5L << 40) + 7, 7}};
            for (long[] pair : pairs) {
                c.due(1, "write", sort, 0, pair[0]).due(pair[1], "read", sort, 0);
            }
        }
        Check c = new Check().due(1, "tray", 3, 3, 1);
        for (long v : new long[] {Long.MAX_VALUE, Long.MIN_VALUE, -1, 1L << 32, 0}) {
            c.due(1, "write", 3, 0, v).due(v, "read", 3, 0);
        }
    }

    /** "A LAND is a TEXT of at most 900 bytes." */
    private static void nineHundredBytes() {
        new Check().land("place a;" + Lands.blanks(892), 0).due(1, "many", 0);
        new Check().land(Lands.blanks(892) + "place a;", 0).due(1, "many", 0);
        new Check().land(Lands.blanks(900), 0).due(0, "many", 0);
        new Check().faulty("land", Lands.blanks(893) + "place a", 2, 900);
        new Check().faulty("land", Lands.blanks(899) + "#", 1, 899);
        new Check().faulty("land", Lands.blanks(899) + ";", 2, 899);
        new Check().feed(Lands.blanks(900)).tells(-1, "feed", 0, 0, 0, 0, 0)
                .refused(5, "land", 901);
    }

    /** "between them blanks (10, 32)": of all bytes these two alone; the others as what they are */
    private static void everyByteBetweenTokens() {
        Check c = new Check();
        for (int b = 0; b < 256; b++) {
            String text = "place" + (char) b + "q;";
            if (b == 10 || b == 32) {
                c.land(text, 0).due(1, "many", 0);
            } else if (b >= 'a' && b <= 'z') {
                c.faulty("land", text, 2, 0);
            } else if (b >= '0' && b <= '9' || ";<>=".indexOf(b) >= 0) {
                c.faulty("land", text, 2, 5);
            } else {
                c.faulty("land", text, 1, 5);
            }
        }
        c.land("\n \n  place\n\n  q\n ; \n", 0).due(1, "many", 0);
        // behind a word and behind a number each byte that is neither ends it
        for (int b : new int[] {0, 47, 58, 96, 123, 128, 'Z', 225, 255}) {
            c.faulty("land", "clock" + (char) b, 1, 5).faulty("land", "clock 5" + (char) b, 1, 7)
                    .faulty("land", "place b" + (char) b, 1, 7);
        }
    }

    /** "TOKENS, as long as they go, between them blanks (10, 32): WORDS (small letters), NUMBERS (1 to
     * 4 digits), SIGNS ; < > =" */
    private static void tokensAsLongAsTheyGo() {
        new Check().faulty("land", "placeroad", 2, 0).faulty("land", "placea;", 2, 0).faulty("land", "placeplace a;", 2, 0)
                .faulty("land", "glareto 1 to 2;", 2, 0).faulty("land", "place a;;", 2, 8)
                .land("place roads;place toto;", 0).due(2, "many", 0)
                .land("clock7;rope2;glare3to4;", 0).due(7, "many", 5).due(2, "many", 6)
                .due(3, "many", 3).due(4, "many", 4)
                .faulty("land", "clock 1 2;", 2, 8).faulty("land", "clock 12 34;", 2, 9)
                .land("clock 1234;", 0).due(1234, "many", 5);
    }

    /** "NUMBERS (1 to 4 digits)"; "a NUMBER of 5 digits and more: at its first" */
    private static void numbersOfDigits() {
        new Check().land("clock 7;", 0).due(7, "many", 5).land("clock 07;", 0).due(7, "many", 5)
                .land("clock 007;", 0).due(7, "many", 5).land("clock 0007;", 0).due(7, "many", 5)
                .faulty("land", "clock 00007;", 1, 6).faulty("land", "clock 000007;", 1, 6)
                .faulty("land", "clock 10000;", 1, 6).faulty("land", "clock 9999;", 4, 6)
                .faulty("land", "12345", 1, 0).faulty("land", "1234", 2, 0)
                .faulty("land", "place 99999;", 1, 6).faulty("land", "place a12345;", 1, 7)
                .faulty("land", "clock 4294967296;", 1, 6)
                .faulty("land", "clock 18446744073709551617;", 1, 6);
    }

    /** "LAND: {PART}." - none at all, and any number of them in any order */
    private static void textIsParts() {
        new Check().land("", 0).due(0, "many", 0).land(" ", 0).land("\n", 0)
                .land("odds 5;habit 2;rope 3;clock 4;glare 1 to 2;", 0).due(5, "many", 8)
                .due(2, "many", 7).due(3, "many", 6).due(4, "many", 5).due(1, "many", 3);
        new Check().land("place a;sighted s at a;place b;blind x at b;road a b minutes 3;"
                + "knows x b a;rope 1;place c;road c a minutes 4 smells;odds 0;", 2)
                .due(3, "many", 0).due(2, "many", 1).due(1, "person", 1, 0).due(3, "gone", 1, 0)
                .due(2, "road", 1, 0).due(0, "road", 1, 1);
    }

    /** "PART: glare NUMBER to NUMBER ; or clock NUMBER ; or rope NUMBER ; or habit NUMBER ; or odds
     * NUMBER ; or place NAME ; or road NAME NAME minutes NUMBER [smells] ; or sighted NAME at NAME
     * [glasses] ; or blind NAME at NAME ; or knows NAME NAME NAME ; ({ } any number of times, [ ]
     * perhaps.)" - each of them, and what is too much or too little of it */
    private static void partsInFull() {
        Check c = new Check();
        c.faulty("land", "glare;", 2, 5).faulty("land", "glare 1;", 2, 7)
                .faulty("land", "glare 1 to;", 2, 10).faulty("land", "glare 1 to 2", 2, 12)
                .faulty("land", "glare 1 to 2 3;", 2, 13).faulty("land", "glare 1 at 2;", 2, 8)
                .faulty("land", "glare to 2;", 2, 6);
        for (String word : new String[] {"clock", "rope", "habit", "odds"}) {
            int n = word.length();
            c.faulty("land", word, 2, n).faulty("land", word + ";", 2, n)
                    .faulty("land", word + " 5", 2, n + 2).faulty("land", word + " 5 5;", 2, n + 3)
                    .faulty("land", word + " a;", 2, n + 1).faulty("land", word + " <5;", 2, n + 1);
        }
        c.faulty("land", "place;", 2, 5).faulty("land", "place a", 2, 7)
                .faulty("land", "place a b;", 2, 8).faulty("land", "place a<", 2, 7);
        c.faulty("land", TWO + "road;", 2, 39).faulty("land", TWO + "road a;", 2, 41)
                .faulty("land", "place a;place b;road a b;", 2, 24)
                .faulty("land", "place a;place b;road a b minutes;", 2, 32)
                .faulty("land", "place a;place b;road a b minutes smells;", 2, 33)
                .faulty("land", "place a;place b;road a b minutes 5 smells", 2, 41)
                .faulty("land", "place a;place b;road a b minutes 5 smells smells;", 2, 42)
                .faulty("land", "place a;place b;road a b smells;", 2, 25)
                .faulty("land", "place a;place b;road a b 5;", 2, 25)
                .faulty("land", "place a;place b;road a b minutes 5 5;", 2, 35);
        c.faulty("land", "place a;sighted;", 2, 15).faulty("land", "place a;sighted s;", 2, 17)
                .faulty("land", "place a;sighted s at;", 2, 20)
                .faulty("land", "place a;sighted s a;", 2, 18)
                .faulty("land", "place a;sighted s at a", 2, 22)
                .faulty("land", "place a;sighted s at a glasses", 2, 30)
                .faulty("land", "place a;sighted s at a glasses glasses;", 2, 31)
                .faulty("land", "place a;sighted s glasses at a;", 2, 18)
                .faulty("land", "place a;blind x at a glasses;", 2, 21);
        c.faulty("land", FOUR + "knows;", 2, FOUR.length() + 5)
                .faulty("land", FOUR + "knows s;", 2, FOUR.length() + 7)
                .faulty("land", FOUR + "knows s a;", 2, FOUR.length() + 9)
                .faulty("land", FOUR + "knows s a b", 2, FOUR.length() + 11)
                .faulty("land", FOUR + "knows s a b a;", 2, FOUR.length() + 12)
                .land(FOUR + "knows s a b;", 2);
    }

    /** "NAME: a WORD of 1 to 8 letters that is none of glare, to, clock, rope, habit, odds, place,
     * road, minutes, smells, sighted, at, glasses, blind, knows, wait, go, lead, any, cloud, clear,
     * when, lost, loop, end, stop." - each of them, and words next to them */
    private static void namesAreNoKeywords() {
        for (String word : Lands.KEYWORDS) {
            Check c = new Check().land("place here;", 0);
            c.faulty("land", "place " + word + ";", 2, 6)
                    .faulty("land", "place a;sighted " + word + " at a;", 2, 16)
                    .faulty("land", "place a;blind " + word + " at a;", 2, 14)
                    .faulty("land", "place a;blind x at " + word + ";", 2, 19)
                    .faulty("land", TWO + "road " + word + " b", 2, TWO.length() + 5)
                    .faulty("land", TWO + "road a " + word, 2, TWO.length() + 7)
                    .faulty("land", FOUR + "knows " + word, 2, FOUR.length() + 6)
                    .faulty("land", FOUR + "knows s " + word, 2, FOUR.length() + 8)
                    .faulty("land", FOUR + "knows s a " + word, 2, FOUR.length() + 10);
            String less = word.substring(0, word.length() - 1);
            c.land("place " + word + "z;place " + less + ";place " + word + "a;", 0)
                    .due(3, "many", 0);
        }
    }

    /** "a WORD of 1 to 8 letters"; "a WORD of 9 letters and more where a NAME must stand" (2) */
    private static void namesOfLetters() {
        StringBuilder all = new StringBuilder();
        for (int n = 1; n <= 8; n++) {
            all.append("place ").append("zzzzzzzz", 0, n).append(';');
        }
        new Check().land(all.toString(), 0).due(8, "many", 0);
        new Check().land("place abcdefgh;place abcdefgi;place bbcdefgh;place abcdefg;"
                + "blind x at abcdefgi;blind y at abcdefg;blind z at bbcdefgh;", 3)
                .due(1, "person", 0, 0).due(3, "person", 1, 0).due(2, "person", 2, 0)
                .faulty("land", "place abcdefgh;place abcdefgh;", 3, 21);
        String nine = "place abcdefgh;place b;road b abcdefgh minutes 5;blind hijklmno at b;";
        int n = nine.length();
        new Check().faulty("land", "place abcdefghi;", 2, 6)
                .faulty("land", "place a;blind abcdefghi at a;", 2, 14)
                .faulty("land", nine + "blind x at abcdefgha;", 2, n + 11)
                .faulty("land", nine + "road abcdefghi b", 2, n + 5)
                .faulty("land", nine + "road b abcdefghi", 2, n + 7)
                .faulty("land", nine + "knows hijklmnop b", 2, n + 6)
                .faulty("land", nine + "knows hijklmno abcdefghi", 2, n + 15)
                .faulty("land", nine + "knows hijklmno b abcdefghi", 2, n + 17)
                .faulty("land", "abcdefghi", 2, 0).faulty("land", "place a abcdefghi", 2, 8)
                .faulty("land", "place aaaaaaaaaaaaaaaaaaaaaaaaaaaaaaaaaaaaaaaaaaaaaaaaaaaaaaaa;",
                        2, 6)
                .faulty("land", "placeaaaaaaaaaaaaaaaaaa", 2, 0)
                .land(nine + "knows hijklmno b abcdefgh;", 1).due(3, "gone", 0, 0);
    }

    /** "One NAME is of one thing alone." */
    private static void oneNameOneThing() {
        new Check().faulty("land", "place a;place a;", 3, 14)
                .faulty("land", "place a;place b;sighted b at a;", 3, 24)
                .faulty("land", "place a;blind a at a;", 3, 14)
                .faulty("land", "place a;sighted s at a;place s;", 3, 29)
                .faulty("land", "place a;sighted s at a;blind s at a;", 3, 29)
                .faulty("land", "place a;blind s at a;sighted s at a;", 3, 29)
                .faulty("land", "place a;sighted a at b;", 3, 16)
                .faulty("land", "place a;place b;place c;place c;", 3, 30);
        // a LAND ahead takes no names
        new Check().land("place a;sighted s at a;", 1).land("place s;sighted a at s;", 1);
    }

    /** "GLARE: hours FROM (0 to 23) and TILL (1 to 24, more than FROM); 10 and 16 without." */
    private static void glare() {
        Check c = new Check().due(10, "many", 3).due(16, "many", 4).land("glare 0 to 1;", 0)
                .due(0, "many", 3).due(1, "many", 4).land("glare 23 to 24;", 0)
                .due(23, "many", 3).due(24, "many", 4).land("glare 0 to 24;", 0)
                .due(0, "many", 3).due(24, "many", 4).land("place a;", 0).due(10, "many", 3)
                .due(16, "many", 4);
        c.faulty("land", "glare 24 to 24;", 4, 6).faulty("land", "glare 9999 to 24;", 4, 6)
                .faulty("land", "glare 0 to 0;", 4, 11).faulty("land", "glare 9 to 9;", 4, 11)
                .faulty("land", "glare 9 to 8;", 4, 11).faulty("land", "glare 23 to 25;", 4, 12)
                .faulty("land", "glare 0 to 25;", 4, 11).faulty("land", "glare 0 to 9999;", 4, 11)
                .faulty("land", "glare 23 to 23;", 4, 12).faulty("land", "glare 23 to 0;", 4, 12);
        for (int from = 0; from < 24; from++) {
            c.land("glare " + from + " to " + (from + 1) + ";", 0).due(from, "many", 3)
                    .due(from + 1, "many", 4);
        }
    }

    /** "CLOCK (0 to 1439; 480 without): the MINUTE at first." */
    private static void clock() {
        new Check().due(480, "many", 5).land("clock 0;", 0).due(0, "many", 5)
                .land("clock 1439;", 0).due(1439, "many", 5).land("place a;", 0)
                .due(480, "many", 5).faulty("land", "clock 1440;", 4, 6)
                .faulty("land", "clock 9999;", 4, 6);
    }

    /** "ROPE (1 to 9; 9 without)." */
    private static void rope() {
        new Check().due(9, "many", 6).land("rope 1;", 0).due(1, "many", 6).land("rope 9;", 0)
                .due(9, "many", 6).land("rope 2;", 0).land("", 0).due(9, "many", 6)
                .faulty("land", "rope 0;", 4, 5).faulty("land", "rope 10;", 4, 5);
    }

    /** "HABIT (1 to 9; 3 without)." */
    private static void habit() {
        new Check().due(3, "many", 7).land("habit 1;", 0).due(1, "many", 7).land("habit 9;", 0)
                .due(9, "many", 7).land("place a;", 0).due(3, "many", 7)
                .faulty("land", "habit 0;", 4, 6).faulty("land", "habit 10;", 4, 6);
    }

    /** "ODDS (0 to 16; 4 without)." */
    private static void odds() {
        new Check().due(4, "many", 8).land("odds 0;", 0).due(0, "many", 8).land("odds 16;", 0)
                .due(16, "many", 8).land("place a;", 0).due(4, "many", 8)
                .faulty("land", "odds 17;", 4, 5).faulty("land", "odds 9999;", 4, 5);
    }

    /** "PLACES, at most 8." */
    private static void places() {
        Check c = new Check().due(0, "many", 0).land(Lands.places(7), 0).due(7, "many", 0)
                .land(Lands.places(8), 0).due(8, "many", 0);
        c.faulty("land", Lands.places(9), 6, 64).refused(2, "roadOf", 8, 0)
                .refused(8, "roadOf", 7, 0);
    }

    /** "ROADS, at most 12: between two PLACES, both ways, in so many MINUTES (1 to 99), at most one
     * between two; some SMELL." */
    private static void roads() {
        Check c = new Check().land(Lands.twelveRoads(), 0).due(12, "many", 1).due(7, "road", 11, 0)
                .due(0, "road", 11, 1).due(99, "road", 11, 2).due(0, "road", 11, 3)
                .due(6, "road", 0, 0).due(7, "road", 0, 1).due(1, "road", 0, 2).due(1, "road", 0, 3)
                .due(11, "roadOf", 0, 7).due(11, "roadOf", 7, 0).refused(2, "road", 12, 0);
        c.faulty("land", Lands.twelveRoads() + Lands.road('b', 'd', 5, false), 6,
                Lands.twelveRoads().length());
        new Check().faulty("land", "place a;place b;road a b minutes 0;", 4, 33)
                .faulty("land", "place a;place b;road a b minutes 100;", 4, 33)
                .faulty("land", "place a;road a a minutes 5;", 5, 15)
                .faulty("land", TWO + "road a b minutes 5;", 5, 42)
                .faulty("land", TWO + "road b a minutes 5;", 5, 42);
        new Check().land(FOUR, 2).due(5, "go", 0, 1).due(1, "passes", 5).due(5, "go", 0, 0)
                .due(1, "passes", 5).due(0, "person", 0, 0).due(2, "gone", 0, 0);
    }

    /** "PEOPLE, at most 8: SIGHTED, perhaps with GLASSES, or BLIND; AT a PLACE." */
    private static void people() {
        String place = "place here;";
        StringBuilder seven = new StringBuilder(place);
        for (char p = 'a'; p < 'h'; p++) {
            seven.append(p < 'd' ? "sighted " : "blind ").append(p).append(" at here;");
        }
        Check c = new Check().land(place, 0).land(seven.toString(), 7).due(120, "many", 11)
                .land(seven + "sighted h at here glasses;", 8).due(8, "many", 2)
                .due(120, "many", 11).due(1, "person", 7, 5).due(0, "person", 0, 5)
                .due(0, "person", 3, 5).due(0, "person", 7, 0).refused(2, "person", 8, 0);
        String eight = seven + "blind h at here;";
        c.land(eight, 8).due(248, "many", 11);
        c.faulty("land", eight + "blind i at here;", 6, eight.length())
                .faulty("land", eight + "sighted i at here;", 6, eight.length());
    }

    /** "KNOWS: a PERSON has gone the ROAD between two PLACES as often as HABIT tells." */
    private static void knows() {
        for (int habit : new int[] {1, 2, 9}) {
            new Check().land("habit " + habit + ";" + FOUR + "knows x b a;", 2)
                    .due(habit, "gone", 1, 0).due(0, "gone", 0, 0).due(1, "can", 1, 0);
        }
        new Check().land(FOUR + "knows s a b;", 2).due(3, "gone", 0, 0).due(0, "gone", 1, 0)
                .due(0, "can", 1, 0)
                // told twice it is as often as told once
                .land(FOUR + "knows x a b;knows x b a;", 2).due(3, "gone", 1, 0);
        // of the last of all people the last of all roads
        new Check().land(Lands.full() + "knows v a h;", 8).due(1, "gone", 7, 11)
                .due(0, "gone", 7, 10).due(0, "gone", 6, 11);
    }

    /** "All are numbered as they stand; what a PART names must be told ahead." */
    private static void toldAhead() {
        new Check().land("place z;place y;place x;blind c at x;sighted b at y;blind a at z;"
                + "road y x minutes 2;road z x minutes 3;", 3).due(2, "person", 0, 0)
                .due(1, "person", 1, 0).due(0, "person", 2, 0).due(5, "many", 11)
                .due(0, "roadOf", 1, 2).due(1, "roadOf", 0, 2).refused(8, "roadOf", 0, 1);
        new Check().faulty("land", "sighted s at a;place a;", 3, 13)
                .faulty("land", "place a;road a b minutes 5;place b;", 3, 15)
                .faulty("land", "place a;road b a minutes 5;place b;", 3, 13)
                .faulty("land", TWO + "knows s a b;sighted s at a;", 3, 41)
                .faulty("land", "place a;place b;sighted s at a;knows s a b;road a b minutes 5;",
                        3, 41);
    }

    /** "1 no TOKEN begins so (a NUMBER of 5 digits and more: at its first)" */
    private static void faultOneToken() {
        new Check().faulty("land", "#", 1, 0).faulty("land", "place a;#", 1, 8)
                .faulty("land", "place #", 1, 6).faulty("land", "place a#", 1, 7)
                .faulty("land", "clock #", 1, 6).faulty("land", "clock 5#", 1, 7)
                .faulty("land", "glare 5 #", 1, 8).faulty("land", "glare 5 to #", 1, 11)
                .faulty("land", TWO + "road #", 1, 40).faulty("land", TWO + "road a #", 1, 42)
                .faulty("land", TWO + "place c;road a c #", 1, 52)
                .faulty("land", TWO + "place c;road a c minutes #", 1, 60)
                .faulty("land", TWO + "place c;road a c minutes 5 #", 1, 62)
                .faulty("land", TWO + "sighted #", 1, 43).faulty("land", TWO + "sighted s #", 1, 45)
                .faulty("land", TWO + "sighted s at #", 1, 48)
                .faulty("land", TWO + "sighted s at a #", 1, 50)
                .faulty("land", FOUR + "knows #", 1, FOUR.length() + 6)
                .faulty("land", FOUR + "knows s #", 1, FOUR.length() + 8)
                .faulty("land", FOUR + "knows s a #", 1, FOUR.length() + 10)
                .faulty("land", FOUR + "knows s a b #", 1, FOUR.length() + 12)
                .faulty("land", "12345", 1, 0).faulty("land", "glare 12345", 1, 6)
                .faulty("land", "glare 1 12345", 1, 8).faulty("land", "glare 1 to 2 12345", 1, 13);
    }

    /** "2 it can't stand there (the end: the text's length ..)" */
    private static void faultTwoOrder() {
        new Check().faulty("land", "place", 2, 5).faulty("land", "place ", 2, 6)
                .faulty("land", "place\n\n", 2, 7).faulty("land", "place a \n ", 2, 10)
                .faulty("land", "glare", 2, 5).faulty("land", "glare 1 ", 2, 8)
                .faulty("land", "glare 1 to ", 2, 11).faulty("land", "blind ", 2, 6)
                .faulty("land", "knows", 2, 5).faulty("land", "a", 2, 0).faulty("land", ";", 2, 0)
                .faulty("land", "5", 2, 0).faulty("land", "<", 2, 0).faulty("land", ">", 2, 0)
                .faulty("land", "=", 2, 0);
        // the first n bytes alone are the text: behind them is its end
        new Check().faultyPart("land", "place abcdefgh;clock", 8, 2, 8)
                .faultyPart("land", "place abcdefgh;clock", 18, 2, 15);
        for (String word : Lands.KEYWORDS) {
            if (!"glare clock rope habit odds place road sighted blind knows".contains(word)) {
                new Check().faulty("land", word + " 5;", 2, 0)
                        .faulty("land", "place a;" + word, 2, 8);
            }
        }
    }

    /** "3 a new NAME that is taken; a NAME that is no such one told ahead; two PLACES behind knows
     * without a ROAD (at the second one)" */
    private static void faultThreeNames() {
        String c = FOUR + "place c;";
        int n = c.length();
        new Check().faulty("land", c + "place s;", 3, n + 6).faulty("land", c + "place c;", 3, n + 6)
                .faulty("land", c + "road s a", 3, n + 5).faulty("land", c + "road a s", 3, n + 7)
                .faulty("land", c + "road q a", 3, n + 5).faulty("land", c + "road a q", 3, n + 7)
                .faulty("land", c + "blind q at x", 3, n + 11)
                .faulty("land", c + "blind q at q", 3, n + 11)
                .faulty("land", c + "knows a a b", 3, n + 6)
                .faulty("land", c + "knows q a b", 3, n + 6)
                .faulty("land", c + "knows s x b", 3, n + 8)
                .faulty("land", c + "knows s a x", 3, n + 10)
                .faulty("land", c + "knows s q a", 3, n + 8)
                .faulty("land", c + "knows s a c;", 3, n + 10)
                .faulty("land", c + "knows s c a;", 3, n + 10)
                .faulty("land", c + "knows s a a;", 3, n + 10)
                .faulty("land", c + "knows s c c;", 3, n + 10);
    }

    /** "4 a NUMBER that can't be." */
    private static void faultFourNumbers() {
        new Check().faulty("land", "rope 0", 4, 5).faulty("land", "rope 0000", 4, 5)
                .faulty("land", "habit 10", 4, 6).faulty("land", "odds 17", 4, 5)
                .faulty("land", "clock 1440", 4, 6).faulty("land", "glare 24", 4, 6)
                .faulty("land", "glare 3 to 3", 4, 11)
                .faulty("land", "place a;place b;road a b minutes 100", 4, 33);
    }

    /** "5 glare, clock, rope, habit, odds told already (at that WORD), habit behind a knows (at
     * that WORD); a PLACE and itself, two PLACES that have a ROAD (at the second NAME)" */
    private static void faultFiveTwice() {
        String all = "glare 1 to 2;clock 3;rope 4;habit 5;odds 6;";
        for (String word : new String[] {"glare", "clock", "rope", "habit", "odds"}) {
            new Check().faulty("land", all + word, 5, all.length())
                    .faulty("land", all + "place a;" + word + " #", 5, all.length() + 8);
        }
        new Check().faulty("land", FOUR + "knows s a b;habit", 5, FOUR.length() + 12)
                .faulty("land", "habit 2;" + FOUR + "knows s a b;habit", 5, FOUR.length() + 20)
                .land(FOUR + "habit 2;knows s a b;", 2).due(2, "gone", 0, 0)
                .land(FOUR + "knows s a b;clock 5;rope 5;odds 5;glare 1 to 5;", 2)
                .due(5, "many", 5);
        String place = "place aaa;place bbb;";
        new Check().faulty("land", place + "road aaa aaa", 5, 29)
                .faulty("land", place + "road aaa  bbb minutes 5;road aaa bbb", 5, 53)
                .faulty("land", place + "road aaa  bbb minutes 5;road bbb\naaa", 5, 53);
    }

    /** "6 a ninth place, a 13th road, a ninth of PEOPLE (at that WORD)" */
    private static void faultSixMany() {
        String eight = Lands.places(8);
        String full = Lands.full();
        new Check().faulty("land", eight + "place", 6, 64).faulty("land", eight + "\n place", 6, 66)
                .faulty("land", full + "road", 6, full.length())
                .faulty("land", full + "blind", 6, full.length())
                .faulty("land", full + "sighted", 6, full.length())
                .faulty("land", full + "place", 6, full.length());
        // those of one kind do not count for another
        new Check().land(full, 8).due(8, "many", 0).due(12, "many", 1).due(8, "many", 2);
    }

    /** "FAULTS, the first along the text" */
    private static void firstAlongTheText() {
        String eight = Lands.places(8);
        new Check().faulty("land", "clock 1440;#", 4, 6).faulty("land", "#clock 1440;", 1, 0)
                .faulty("land", "place a#;clock 1440", 1, 7)
                .faulty("land", "clock 1;clock 1440;", 5, 8)
                .faulty("land", "place a;place a place", 3, 14)
                .faulty("land", eight + "place a;", 6, 64).faulty("land", eight + "place #", 6, 64)
                .faulty("land", eight + "road a a minutes 0;", 5, 71)
                .faulty("land", eight + "road a q minutes 0;", 3, 71)
                .faulty("land", eight + "road a b minutes 0 glasses;", 4, 81)
                .faulty("land", eight + "road q q minutes 0;", 3, 69)
                .faulty("land", "glare 24 to 0;", 4, 6).faulty("land", "glare 5 at 25;", 2, 8)
                .faulty("land", Lands.full() + "blind w at q;", 6, Lands.full().length());
    }

    /** "of one TOKEN the least kind" */
    private static void leastKindOfOneToken() {
        new Check().faulty("land", "clock 14400;", 1, 6).faulty("land", "place 14400;", 1, 6)
                .faulty("land", "14400", 1, 0).faulty("land", "clock clock;", 2, 6)
                .faulty("land", "clock 5;place clock", 2, 14)
                .faulty("land", TWO + "road a abcdefghi", 2, 42)
                .faulty("land", TWO + "sighted s at a;road a s", 3, 57)
                .faulty("land", TWO + "sighted s at a;knows s a q", 3, 60);
    }

    private static Check busy(String texts) {
        Check c = new Check().land("glare 1 to 2;clock 590;rope 3;habit 5;odds 9;" + texts, 4)
                .days("wait 3;", 1).due(20, "lead", 0, 4, 1).due(20, "lead", 1, 8, 1)
                .due(15, "passes", 20).due(1, "cloud", 1).due(1, "plant", 0, 1)
                .due(20, "lead", 0, 4, 0).due(1, "cure", 0, 0).due(1, "plant", 0, 0)
                .due(0, "passes", 7);
        return c;
    }

    /** "A LAND that is taken is there in place of that ahead; nobody is on a ROAD, LOST, owes
     * anything; it is not CLOUDY; there are no DAYS (MARKS stay)." */
    private static void takenInPlaceOfThatAhead() {
        String texts = "place a;place b;road a b minutes 20;sighted s at a;sighted t at a glasses;"
                + "blind x at a;blind y at a;";
        String plain = new Check().land(texts, 4).land();
        // twice over, so that nothing of the one before the last is left either
        Check c = busy(texts).due(14, "many", 14).due(5, "many", 12).due(20, "owes", 2, 0)
                .due(1, "gone", 2, 0).due(1, "mark").due(2, "mark").land(texts, 4);
        Check.same("a land behind a busy one", c.land(), plain);
        c.refused(8, "live", 0).refused(8, "mean", 0, 1).due(1, "back").due(0, "back")
                .due(14, "many", 14).due(1, "live", 0).due(3, "lived", 1);
        c = busy(texts);
        for (int i = 0; i < 3; i++) {
            c.days("cloud;", 1).due(1, "live", i).refused(9, "cloud", 1);
            c.land(texts, 4).refused(8, "live", 0).due(0, "many", 10).due(10, "many", 3)
                    .due(16, "many", 4).due(480, "many", 5).due(9, "many", 6).due(3, "many", 7)
                    .due(4, "many", 8);
            Check.same("a land behind " + i, c.land(), plain);
            c.due(1, "rule", 3, 4).due(20, "lead", 1, 12, 1).due(14, "passes", 20)
                    .due(1, "plant", 0, 1);
        }
    }

    /** "(5; 10: the old one stays)", with all that became of it, and its DAYS and MARKS */
    private static void refusedLandLeavesTheOldOne() {
        String texts = "place a;place b;road a b minutes 20;sighted s at a;sighted t at a glasses;"
                + "blind x at a;blind y at a;";
        Check c = busy(texts).due(1, "mark").due(1, "live", 0);
        c.faulty("land", "glare 5 to 6;clock 1;rope 1;habit 2;odds 1;place a;place q;#", 1, 59)
                .faulty("land", texts + "knows x a b;habit 4;", 5, texts.length() + 12)
                .faulty("land", "place", 2, 5);
        c.due(3, "lived", 1).due(14 + 6, "many", 14).due(0, "back").due(14, "many", 14);
    }
}
