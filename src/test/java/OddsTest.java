/** Promises 49 to 53: odds, other hours. */
public final class OddsTest {
    private OddsTest() {
    }

    public static void main(String[] args) {
        clouds();
        lostIn();
        lostBy();
        bestFrom();
        arrives();
        Check.end("OddsTest");
    }

    private static void odds(Check c, int n, int k, long top, long bottom) {
        c.due(1, "clouds", n, k).tells(top, "top").tells(bottom, "bottom");
    }

    private static void clouds() {
        Check c = Check.ring();
        odds(c, 2, 1, 3, 4);
        odds(c, 12, 0, 1, 1);
        odds(c, 0, 0, 1, 1);
        odds(c, 0, 1, 0, 1);
        odds(c, 5, 6, 0, 1);
        odds(c, 12, 6, 1255, 2048);
        odds(c, 12, 12, 1, 4096);
        odds(c, 3, 2, 1, 2);
        c.refused(5, "clouds", 13, 0).refused(5, "clouds", -1, 0).refused(5, "clouds", 0, 13)
                .refused(5, "clouds", 0, -1).tells(1, "top").tells(2, "bottom");
        Check plain = new Check();
        odds(plain, 12, 12, 1, 16777216);
        odds(plain, 2, 1, 7, 16);
        Check rare = new Check().land("odds 1;", 0);
        odds(rare, 12, 12, 1, 281474976710656L);
        odds(rare, 12, 1, 281474976710656L - 129746337890625L, 281474976710656L);
        Check never = new Check().land("odds 0;", 0);
        odds(never, 12, 1, 0, 1);
        odds(never, 12, 0, 1, 1);
        Check ever = new Check().land("odds 16;", 0);
        odds(ever, 12, 12, 1, 1);
    }

    private static void lostIn() {
        Check c = Check.ring().due(0, "lostIn", 999).refused(5, "lostIn", 1000)
                .refused(5, "lostIn", -1).due(0, "passes", 20).due(30, "lead", 0, 4, 3)
                .due(0, "lostIn", 0).due(0, "lostIn", 10).due(2, "lostIn", 11)
                .due(180, "lostIn", 100).due(720, "lostIn", 999).due(720, "lostIn", 370)
                .due(718, "lostIn", 369).due(590, "many", 5).due(0, "many", 14);
        c.due(20, "go", 1, 0).due(1, "glasses", 1, 0).due(180 + 90, "lostIn", 100)
                .due(1, "cloud", 1).due(0, "lostIn", 999);
        c.due(1, "cloud", 0).due(1, "cure", 0, 0).due(2 * 999 + 360, "lostIn", 999);
    }

    private static void lostBy() {
        Check c = Check.ring().refused(5, "lostBy", 1000, 1, 2).refused(5, "lostBy", -1, 1, 2)
                .refused(5, "lostBy", 5, 24, 25).refused(5, "lostBy", 5, -1, 2)
                .refused(5, "lostBy", 5, 2, 2).refused(5, "lostBy", 5, 1, 25)
                .due(0, "passes", 20).due(30, "go", 0, 3).due(0, "lostBy", 100, 0, 1)
                .due(10, "lostBy", 100, 9, 10).due(5, "lostBy", 5, 9, 10)
                .due(90, "lostBy", 100, 10, 16).due(999, "lostBy", 999, 0, 24)
                .due(0, "lostBy", 0, 0, 24).due(10, "many", 3).due(16, "many", 4);
        c.due(1, "cloud", 1).due(0, "lostBy", 100, 0, 24);
    }

    private static void bestFrom() {
        Check c = Check.ring().refused(5, "bestFrom", 1000).refused(5, "bestFrom", -1)
                .due(0, "bestFrom", 0).due(0, "passes", 20).due(30, "go", 0, 3)
                .due(0, "bestFrom", 999).due(1, "rule", 10, 24).due(10, "bestFrom", 5)
                .due(10, "bestFrom", 10).due(11, "bestFrom", 11).due(11, "bestFrom", 999)
                .due(10, "many", 3).due(24, "many", 4).due(1, "rule", 0, 24)
                .due(10, "bestFrom", 10).due(11, "bestFrom", 30);
        c.due(1, "cloud", 1).due(0, "bestFrom", 30);
        // 23 hours: from 1 on they are cut at 24
        Check night = new Check().land("glare 0 to 23;clock 1400;place a;place b;"
                + "road a b minutes 30;sighted x at a;", 1);
        night.due(30, "go", 0, 1).due(0, "bestFrom", 30).due(1, "rule", 0, 22)
                .due(0, "bestFrom", 999);
        // at 22:30 all hours are glare till 24 but those from 23 on
        Check late = new Check().land("glare 0 to 24;clock 1350;place a;place b;"
                + "road a b minutes 20;sighted x at a glasses;", 1);
        late.due(20, "go", 0, 1).due(1, "glasses", 0, 0).due(23, "bestFrom", 20)
                .due(23, "bestFrom", 999);
        Check dawn = new Check().land("glare 0 to 23;clock 1430;place a;place b;"
                + "road a b minutes 30;sighted x at a;", 1);
        dawn.due(30, "go", 0, 1).due(1410, "arrives", 0).due(0, "bestFrom", 10)
                .due(1, "bestFrom", 999);
    }

    private static void arrives() {
        Check c = Check.ring().refused(9, "arrives", 0).refused(2, "arrives", 4)
                .refused(2, "arrives", -1).due(30, "lead", 0, 4, 3).due(30, "arrives", 0)
                .due(30, "arrives", 2).due(0, "passes", 10).due(20, "arrives", 2)
                .due(1, "rule", 9, 10).due(40, "arrives", 2).due(1, "rule", 0, 24)
                .refused(8, "arrives", 0).refused(8, "arrives", 2).due(1, "cloud", 1)
                .due(20, "arrives", 0).due(1, "cure", 0, 0).refused(8, "arrives", 0)
                .refused(8, "arrives", 2).due(1, "plant", 2, 1).due(20, "arrives", 0)
                .due(5, "passes", 20).refused(9, "arrives", 0);
    }
}
