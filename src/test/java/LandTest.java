/** Promises 13 to 20: what a LAND tells. */
public final class LandTest {
    private LandTest() {
    }

    public static void main(String[] args) {
        many();
        road();
        person();
        gone();
        owes();
        copyPlaces();
        Check.end("LandTest");
    }

    private static void many() {
        Check c = Check.ring().due(4, "many", 0).due(4, "many", 1).due(4, "many", 2)
                .due(10, "many", 3).due(16, "many", 4).due(570, "many", 5).due(2, "many", 6)
                .due(2, "many", 7).due(8, "many", 8).due(0, "many", 9).due(0, "many", 10)
                .due(12, "many", 11).due(0, "many", 12).due(0, "many", 13).due(0, "many", 14)
                .refused(5, "many", 15).refused(5, "many", -1);
        // ann has 20 of 40 minutes to the glare, and stands lost for 10 with cid
        c.due(20, "lead", 0, 4, 1).due(5, "passes", 20).due(40, "lead", 0, 4, 2)
                .due(5, "many", 12).due(4, "many", 13).due(0, "passes", 20).due(20, "many", 14)
                .due(1, "many", 9).due(1, "cloud", 1).due(0, "many", 9).due(1, "many", 10)
                .due(5, "passes", 30).due(0, "many", 12).due(0, "many", 13).due(20, "many", 14);
    }

    private static void road() {
        Check.ring().due(0, "road", 0, 0).due(1, "road", 0, 1).due(20, "road", 0, 2)
                .due(1, "road", 0, 3).due(0, "road", 1, 3).due(3, "road", 3, 0)
                .due(2, "road", 3, 1).due(15, "road", 3, 2).refused(2, "road", 4, 0)
                .refused(2, "road", -1, 0).refused(2, "road", 4, 4).refused(5, "road", 0, 4)
                .refused(5, "road", 0, -1);
        Check.ring().due(0, "roadOf", 0, 1).due(0, "roadOf", 1, 0).due(3, "roadOf", 2, 3)
                .refused(8, "roadOf", 0, 2).refused(8, "roadOf", 2, 2).refused(2, "roadOf", 4, 0)
                .refused(2, "roadOf", 0, 4).refused(2, "roadOf", -1, 0).refused(2, "roadOf", 0, -1);
    }

    private static void person() {
        Check c = Check.ring().due(0, "person", 0, 0).refused(8, "person", 0, 1)
                .due(0, "person", 0, 2).refused(8, "person", 0, 3).due(0, "person", 0, 4)
                .due(0, "person", 0, 5).due(1, "person", 1, 5).refused(2, "person", 4, 0)
                .refused(2, "person", -1, 0).refused(2, "person", 4, 6).refused(5, "person", 0, 6)
                .refused(5, "person", 0, -1);
        c.due(30, "lead", 0, 4, 3).due(0, "passes", 7).refused(8, "person", 0, 0)
                .refused(8, "person", 2, 0).due(3, "person", 0, 1).due(3, "person", 2, 1)
                .due(23, "person", 0, 2).due(23, "person", 2, 2).refused(8, "person", 0, 3)
                .due(0, "person", 2, 3).due(0, "person", 1, 2);
        c.due(5, "passes", 23).due(3, "person", 0, 0).due(3, "person", 2, 0)
                .refused(8, "person", 2, 1).due(0, "person", 2, 2).refused(8, "person", 2, 3);
        // by the road that does not smell ann stands lost from 600 on, and cid with her
        Check.ring().due(20, "lead", 0, 4, 1).due(5, "passes", 20).due(40, "lead", 0, 4, 2)
                .due(0, "passes", 15).due(5, "person", 0, 4).due(5, "person", 2, 4)
                .due(30, "person", 2, 2).due(0, "person", 1, 4);
    }

    private static void gone() {
        Check c = Check.ring().due(2, "gone", 3, 1).due(0, "gone", 3, 0).due(0, "gone", 0, 1)
                .refused(2, "gone", 4, 0).refused(2, "gone", -1, 0).refused(2, "gone", 0, 4)
                .refused(2, "gone", 0, -1);
        c.due(20, "lead", 2, 1, 1).due(5, "passes", 20).due(1, "gone", 0, 0).due(1, "gone", 2, 0)
                .due(20, "go", 2, 0).due(4, "passes", 20).due(2, "gone", 2, 0)
                .due(1, "gone", 0, 0);
        // 150 times, but 99 are counted
        Check often = new Check().land("clock 0;place a;place b;road a b minutes 1 smells;"
                + "blind x at a;sighted y at b glasses;", 2)
                .days("loop 75;go x b;wait 1;go x a;wait 1;end;", 5);
        often.due(300, "live", 0).due(99, "gone", 0, 0).due(0, "lived", 0).due(149, "lived", 2)
                .due(1, "lived", 4).due(1, "passes", 1).due(99, "gone", 0, 0);
    }

    private static void owes() {
        Check c = Check.ring().due(0, "owes", 0, 2).refused(9, "owes", 1, 1)
                .refused(2, "owes", 4, 4).refused(2, "owes", 0, 4).refused(2, "owes", -1, 0)
                .refused(2, "net", 4).refused(2, "net", -1).due(0, "net", 0);
        c.due(20, "lead", 2, 1, 1).due(5, "passes", 20).due(20, "owes", 0, 2)
                .due(-20, "owes", 2, 0).due(0, "owes", 0, 1).due(20, "net", 2).due(-20, "net", 0)
                .due(40, "lead", 1, 5, 2).due(7, "passes", 40).due(40, "owes", 0, 1)
                .due(40, "owes", 2, 1).due(-40, "owes", 1, 2).due(80, "net", 1)
                .due(-20, "net", 2).due(-60, "net", 0).due(0, "net", 3);
        // 110 times 99 minutes are more than 9,999
        Check much = new Check().land("clock 0;habit 1;place a;place b;road a b minutes 99 smells;"
                + "blind x at a;blind y at a;", 2)
                .days("loop 55;lead x y b;wait 99;lead x y a;wait 99;end;", 5)
                .due(221, "live", 0).due(9999, "owes", 1, 0).due(-9999, "owes", 0, 1)
                .due(9999, "net", 0).due(-9999, "net", 1);
        much.due(99, "lead", 1, 1, 1).due(3, "passes", 99).due(9900, "owes", 1, 0)
                .due(-9900, "owes", 0, 1);
    }

    private static void copyPlaces() {
        Check c = Check.ring().due(1, "tray", 0, 0, 5).due(1, "tray", 1, 3, 3)
                .due(1, "write", 0, 4, 77).refused(1, "copyPlaces", 4).refused(1, "copyPlaces", -1)
                .refused(3, "copyPlaces", 2).refused(4, "copyPlaces", 1);
        c.due(30, "go", 0, 3).due(4, "copyPlaces", 0).due(-1, "read", 0, 0).due(1, "read", 0, 1)
                .due(0, "read", 0, 2).due(2, "read", 0, 3).due(77, "read", 0, 4);
        new Check().due(1, "tray", 0, 0, 0).due(0, "copyPlaces", 0).refused(3, "copyPlaces", 1);
    }
}
