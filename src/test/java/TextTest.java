/** Promises 9 to 12: the tape, the texts of a LAND and of DAYS, their FAULTS. */
public final class TextTest {
    private static final String PEOPLE = "place town;place well;road town well minutes 5;"
            + "sighted ann at town;blind bob at town;";

    private TextTest() {
    }

    public static void main(String[] args) {
        feed();
        landCalls();
        landTexts();
        landTokens();
        landNumbers();
        landNames();
        landTwice();
        landMany();
        daysCalls();
        daysTexts();
        daysNames();
        daysMany();
        fault();
        Check.end("TextTest");
    }

    private static void feed() {
        Check c = new Check();
        for (int i = 1; i <= 45; i++) {
            c.tells(i * 20, "feed", 0, 0, 0, 0, 0);
        }
        c.tells(-1, "feed", 0, 0, 0, 0, 0).tells(-1, "feed", 0, 0, 0, 0, 0);
        c.refused(5, "land", 901).tells(-1, "fault", 0);
        // "place a;place b;road" stands with the highest byte of each int first
        new Check().tells(20, "feed", 0x706c6163, 0x6520613b, 0x706c6163, 0x6520623b, 0x726f6164)
                .due(0, "land", 16).due(2, "many", 0);
        new Check().tells(20, "feed", 0xffffffffL, 0, 0, 0, 0).tells(0, "status");
    }

    private static void landCalls() {
        new Check().due(0, "land", 0).tells(0, "fault", 0).refused(5, "land", -1)
                .refused(5, "land", 1).refused(5, "land", Integer.MAX_VALUE)
                .feed("place a;").refused(5, "land", 21).due(0, "land", 20).due(1, "many", 0)
                .refused(5, "land", 1).due(0, "land", 0).due(0, "many", 0);
        Check c = Check.ring().days("wait 5;", 1).due(1, "mark").due(20, "lead", 2, 1, 1)
                .due(1, "cloud", 1).due(1, "tray", 0, 0, 1).due(1, "live", 3);
        c.land("place a;blind z at a;", 1).due(0, "many", 10).due(0, "many", 12)
                .due(480, "many", 5).due(10, "many", 3).due(9, "many", 6).due(3, "many", 7)
                .due(4, "many", 8).refused(8, "live", 0).due(0, "lived", 0).due(0, "read", 0, 0)
                .due(0, "back").due(570, "many", 5).due(4, "many", 2).due(1, "live", 0);
    }

    private static void landTexts() {
        Check c = new Check().land("glare 0 to 24 ; clock 1439;rope 9;habit 9;odds 16;", 0)
                .due(0, "many", 3).due(24, "many", 4).due(1439, "many", 5).due(9, "many", 6)
                .due(9, "many", 7).due(16, "many", 8).due(1, "many", 9);
        c.land("glare 23 to 24;clock 0;rope 1;habit 1;odds 0;", 0).due(23, "many", 3)
                .due(0, "many", 5).due(1, "many", 6).due(1, "many", 7).due(0, "many", 8);
        c.land("place abcdefgh;place a\n;  road\na abcdefgh   minutes 99 smells;"
                + "sighted x at a glasses;blind y at abcdefgh;sighted z at a;", 3)
                .due(1, "road", 0, 0).due(0, "road", 0, 1).due(99, "road", 0, 2)
                .due(1, "road", 0, 3).due(1, "person", 0, 5).due(0, "person", 1, 5)
                .due(0, "person", 2, 5).due(2, "many", 11).due(0, "person", 1, 0);
        c.land("place a;place b;road a b minutes 1;blind y at a;knows y b a;", 1).due(3, "gone", 0, 0);
    }

    private static void landTokens() {
        Check c = new Check();
        c.faulty("land", "place a;\tplace b;", 1, 8).faulty("land", "Place a;", 1, 0)
                .faulty("land", "place A;", 1, 6).faulty("land", "clock 00480;", 1, 6)
                .faulty("land", "clock 12345;", 1, 6).faulty("land", "clock -1;", 1, 6)
                .faulty("land", "place a;\u00e9", 1, 8).faulty("land", "place a;\0", 1, 8)
                .faulty("land", "place a,", 1, 7).faulty("land", "12345", 1, 0)
                .faulty("land", "road 12345", 1, 5).faulty("land", "\r", 1, 0);
        c.faulty("land", ";", 2, 0).faulty("land", "place a;;", 2, 8)
                .faulty("land", "a", 2, 0).faulty("land", "wait 5;", 2, 0)
                .faulty("land", "place", 2, 5).faulty("land", "place a", 2, 7)
                .faulty("land", "place a   ", 2, 10).faulty("land", "place abcdefghi;", 2, 6)
                .faulty("land", "place stop;", 2, 6).faulty("land", "place place;", 2, 6)
                .faulty("land", "place 5;", 2, 6).faulty("land", "place a b;", 2, 8)
                .faulty("land", "clock a;", 2, 6).faulty("land", "clock =;", 2, 6)
                .faulty("land", "glare 1 2;", 2, 8).faulty("land", "glare 1 to to;", 2, 11)
                .faulty("land", "abcdefghi a;", 2, 0).faulty("land", "blind a;", 2, 7)
                .faulty("land", "place a;blind b at a glasses;", 2, 21)
                .faulty("land", "place a;sighted b at a smells;", 2, 23)
                .faulty("land", "place a;place b;road a b 5;", 2, 25)
                .faulty("land", "place a;place b;road a b minutes;", 2, 32)
                .faulty("land", "place a;place b;road a b minutes 5 glasses;", 2, 35)
                .faulty("land", "placea;", 2, 0).faulty("land", "clock5 5;", 2, 7);
        c.land("clock5;glare1to2;", 0).due(5, "many", 5).due(1, "many", 3);
    }

    private static void landNumbers() {
        new Check().faulty("land", "glare 24 to 25;", 4, 6).faulty("land", "glare 5 to 5;", 4, 11)
                .faulty("land", "glare 5 to 25;", 4, 11).faulty("land", "glare 5 to 0;", 4, 11)
                .faulty("land", "clock 1440;", 4, 6).faulty("land", "rope 0;", 4, 5)
                .faulty("land", "rope 10;", 4, 5).faulty("land", "habit 0;", 4, 6)
                .faulty("land", "habit 10;", 4, 6).faulty("land", "odds 17;", 4, 5)
                .faulty("land", "place a;place b;road a b minutes 0;", 4, 33)
                .faulty("land", "place a;place b;road a b minutes 100;", 4, 33)
                .land("clock 0007;", 0).due(7, "many", 5);
    }

    private static void landNames() {
        new Check().faulty("land", "place a;place a;", 3, 14)
                .faulty("land", "place a;sighted a at a;", 3, 16)
                .faulty("land", "place a;blind b at a;blind b at a;", 3, 27)
                .faulty("land", "place a;blind b at a;place b;", 3, 27)
                .faulty("land", "place a;blind b at b;", 3, 19)
                .faulty("land", "blind b at a;place a;", 3, 11)
                .faulty("land", "road a b minutes 5;", 3, 5)
                .faulty("land", "place a;road a b minutes 5;", 3, 15)
                .faulty("land", PEOPLE + "road ann town minutes 5;", 3, PEOPLE.length() + 5)
                .faulty("land", PEOPLE + "knows town well town;", 3, PEOPLE.length() + 6)
                .faulty("land", PEOPLE + "knows ann ann town;", 3, PEOPLE.length() + 10)
                .faulty("land", PEOPLE + "knows ann town bob;", 3, PEOPLE.length() + 15)
                .faulty("land", PEOPLE + "knows ann town town;", 3, PEOPLE.length() + 15)
                .faulty("land", PEOPLE + "place hill;knows ann town hill;", 3,
                        PEOPLE.length() + 26);
    }

    private static void landTwice() {
        new Check().faulty("land", "glare 1 to 2;glare", 5, 13)
                .faulty("land", "clock 1;clock", 5, 8).faulty("land", "rope 1;rope", 5, 7)
                .faulty("land", "habit 1;habit", 5, 8).faulty("land", "odds 1;odds", 5, 7)
                .faulty("land", PEOPLE + "knows ann town well;habit 2;", 5, PEOPLE.length() + 20)
                .faulty("land", PEOPLE + "road town town minutes 5;", 5, PEOPLE.length() + 10)
                .faulty("land", PEOPLE + "road well town minutes 5;", 5, PEOPLE.length() + 10)
                .land("habit 7;" + PEOPLE + "knows ann town well;knows ann well town;", 2)
                .due(7, "gone", 0, 0).due(0, "gone", 1, 0)
                .land(PEOPLE + "knows bob town well;", 2).due(3, "gone", 1, 0);
    }

    private static void landMany() {
        StringBuilder places = new StringBuilder();
        for (char c = 'a'; c <= 'h'; c++) {
            places.append("place ").append(c).append(';');
        }
        String eight = places.toString();
        Check c = new Check().land(eight, 0).due(8, "many", 0);
        c.faulty("land", eight + "place", 6, 64);
        StringBuilder roads = new StringBuilder(eight);
        for (int i = 0; i < 7; i++) {
            roads.append("road ").append((char) ('a' + i)).append(' ').append((char) ('b' + i))
                    .append(" minutes 1;");
        }
        for (int i = 0; i < 5; i++) {
            roads.append("road ").append((char) ('a' + i)).append(' ').append((char) ('c' + i))
                    .append(" minutes 2;");
        }
        c.land(roads.toString(), 0).due(12, "many", 1);
        c.faulty("land", roads + "road", 6, roads.length());
        StringBuilder people = new StringBuilder("place z;");
        for (char p = 'a'; p <= 'h'; p++) {
            people.append(p % 2 == 0 ? "blind " : "sighted ").append(p).append(" at z;");
        }
        c.land(people.toString(), 8);
        c.faulty("land", people + "sighted", 6, people.length());
        c.faulty("land", people + "blind", 6, people.length());
    }

    private static void daysCalls() {
        Check c = Check.ring().days("", 0).due(0, "live", 0).refused(5, "days", -1)
                .refused(5, "days", 1).feed("stop;").refused(5, "days", 21).due(1, "days", 5)
                .refused(5, "days", 5);
        c.faulty("days", "stop; run", 2, 6).due(1, "live", 0);
        StringBuilder blanks = new StringBuilder("stop;");
        while (blanks.length() < 320) {
            blanks.append(' ');
        }
        c.feed(blanks.toString()).refused(5, "days", 301).due(1, "days", 300);
    }

    private static void daysTexts() {
        Check c = Check.ring();
        c.days("wait 1;wait 600;go ann well;lead ann cid hill;any;cloud;clear;stop;", 8)
                .days("when at ann town;when glare;when lost dot>9999;end;end;end;", 3)
                .days("loop 1;loop 99;when lost ann=0;wait 5;end;end;end;loop 2;end;", 5);
        c.faulty("days", "wait\t", 1, 4).faulty("days", "wait 12345;", 1, 5)
                .faulty("days", "run;", 2, 0).faulty("days", "end;", 2, 0)
                .faulty("days", "place a;", 2, 0).faulty("days", "stop;end;", 2, 5)
                .faulty("days", "loop 1;end;end;", 2, 11).faulty("days", "loop 1;", 2, 7)
                .faulty("days", "loop 1;wait 5; ", 2, 15).faulty("days", "loop 1;end", 2, 10)
                .faulty("days", "when glare;", 2, 11).faulty("days", "when;", 2, 4)
                .faulty("days", "when stop;", 2, 5).faulty("days", "when glare 1;", 2, 11)
                .faulty("days", "wait;", 2, 4).faulty("days", "go ann;", 2, 6)
                .faulty("days", "go wait town;", 2, 3).faulty("days", "go annannann town;", 2, 3)
                .faulty("days", "any 1;", 2, 4).faulty("days", "lead ann cid;", 2, 12)
                .faulty("days", "when lost ann 1;", 2, 14).faulty("days", "when lost ann ; 1", 2, 14)
                .faulty("days", "when lost ann > a", 2, 16);
        c.faulty("days", "wait 0;", 4, 5).faulty("days", "wait 601;", 4, 5)
                .faulty("days", "loop 0;", 4, 5).faulty("days", "loop 100;", 4, 5);
    }

    private static void daysNames() {
        Check.ring().faulty("days", "go town ann;", 3, 3).faulty("days", "go ann bob;", 3, 7)
                .faulty("days", "go eva town;", 3, 3).faulty("days", "lead ann town well;", 3, 9)
                .faulty("days", "lead well ann well;", 3, 5)
                .faulty("days", "lead ann cid bob;", 3, 13)
                .faulty("days", "when at town ann;", 3, 8)
                .faulty("days", "when at ann bob;", 3, 12)
                .faulty("days", "when lost town > 1;", 3, 10)
                .faulty("days", "lead ann ann well;", 5, 9);
        new Check().faulty("days", "go ann town;", 3, 3).days("any;wait 5;", 2);
    }

    private static void daysMany() {
        StringBuilder thirty = new StringBuilder();
        for (int i = 0; i < 10; i++) {
            thirty.append("loop 2;any;end;any;");
        }
        Check c = Check.ring().days(thirty.toString(), 30);
        c.faulty("days", thirty + "stop;", 6, thirty.length())
                .faulty("days", thirty + "run;", 2, thirty.length())
                .faulty("days", thirty + "end;", 2, thirty.length());
        c.days("loop 1;when glare;loop 1;end;loop 2;end;end;end;", 4)
                .faulty("days", "loop 1;when glare;loop 1;loop", 7, 25)
                .faulty("days", "loop 1;when glare;loop 1;when", 7, 25);
        String deep = "any;any;any;any;any;any;any;any;any;any;any;any;any;any;any;any;any;any;any;"
                + "any;any;any;any;any;any;any;any;loop 1;loop 1;loop 1;";
        c.faulty("days", deep + "loop", 6, deep.length());
    }

    private static void fault() {
        Check c = new Check().tells(-1, "fault", 0).tells(-1, "fault", 1);
        c.faulty("land", "a", 2, 0).due(0, "land", 0).tells(0, "fault", 0).tells(-1, "fault", 1)
                .tells(-1, "fault", 2).tells(-1, "fault", -1);
        c.faulty("days", "any;go", 2, 6).refused(5, "days", 1).tells(2, "fault", 0)
                .tells(6, "fault", 1).due(0, "days", 0).tells(0, "fault", 0).tells(-1, "fault", 1);
    }
}
