/** Promises 21 to 30: what is done. */
public final class DoneTest {
    private DoneTest() {
    }

    public static void main(String[] args) {
        passes();
        go();
        lead();
        turn();
        cloudAndPlant();
        glassesAndCure();
        settle();
        rule();
        Check.end("DoneTest");
    }

    private static void passes() {
        Check c = Check.ring().refused(5, "passes", 0).refused(5, "passes", 1000)
                .refused(5, "passes", -1).due(0, "passes", 1).due(571, "many", 5)
                .due(0, "passes", 999).due(1570, "many", 5);
        c.due(30, "go", 0, 3).due(20, "go", 2, 1).due(15, "go", 3, 3).due(8, "passes", 15)
                .due(5, "passes", 15).due(0, "passes", 15);
        // a minute of glare more or less, at both ends of it
        Check edge = new Check().land("glare 1 to 2;clock 50;place a;place b;"
                + "road a b minutes 10;sighted x at a;", 1);
        edge.due(10, "go", 0, 1).due(1, "passes", 10).due(60, "many", 5).due(0, "many", 14)
                .due(1, "many", 9).refused(9, "go", 0, 0).due(0, "passes", 59)
                .refused(9, "go", 0, 0).due(0, "passes", 1).due(10, "go", 0, 0)
                .due(1, "passes", 10).due(0, "person", 0, 0);
        Check late = new Check();
        for (int i = 0; i < 99; i++) {
            late.due(0, "passes", 999);
        }
        late.due(99381, "many", 5).refused(7, "passes", 619).refused(7, "passes", 999)
                .refused(5, "passes", 1000).due(0, "passes", 618).due(99999, "many", 5)
                .refused(7, "passes", 1).due(1, "many", 9).due(0, "stuck");
        // ann meets the glare on her road, and goes on at 16 o'clock
        Check.ring().due(0, "passes", 20).due(30, "go", 0, 3).due(0, "passes", 10)
                .due(20, "person", 0, 2).due(0, "passes", 359).due(359, "person", 0, 4)
                .due(20, "person", 0, 2).due(0, "passes", 20).due(360, "person", 0, 4)
                .due(1, "person", 0, 2).due(1, "passes", 1).due(360, "many", 14);
    }

    private static void go() {
        Check c = Check.ring().refused(2, "go", 4, 0).refused(2, "go", -1, 0)
                .refused(2, "go", 0, 4).refused(2, "go", 0, -1).refused(9, "go", 0, 2)
                .refused(9, "go", 0, 0).refused(9, "go", 2, 3).due(40, "go", 3, 1)
                .refused(9, "go", 3, 1).refused(9, "go", 3, 2).due(30, "go", 0, 3)
                .due(0, "passes", 29).refused(9, "go", 0, 3).due(1, "passes", 1)
                .refused(9, "go", 0, 0).due(20, "go", 1, 0).due(20, "go", 2, 1);
        // habit 2: led twice over a road, the blind one knows it
        c.due(1, "cloud", 1).due(0xE, "passes", 20).due(20, "go", 1, 1).due(2, "passes", 20)
                .due(40, "lead", 1, 4, 2).due(0, "can", 2, 1).due(6, "passes", 40)
                .due(0, "can", 2, 1).refused(9, "go", 2, 1).due(40, "lead", 1, 4, 1)
                .due(6, "passes", 40).due(1, "can", 2, 1).due(40, "go", 2, 2);
    }

    private static void lead() {
        Check c = Check.ring().refused(2, "lead", 4, 1, 1).refused(2, "lead", -1, 1, 1)
                .refused(2, "lead", 0, 4, 4).refused(2, "lead", 0, 4, -1)
                .refused(2, "lead", 4, 0, 1).refused(5, "lead", 0, 0, 1)
                .refused(5, "lead", 0, 1, 1).refused(5, "lead", 0, 5, 1)
                .refused(5, "lead", 0, 16, 1).refused(5, "lead", 0, 20, 1)
                .refused(5, "lead", 0, -4, 1).refused(5, "lead", 0, Integer.MIN_VALUE, 1)
                .refused(5, "lead", 0, 14, 1).refused(9, "lead", 0, 2, 1)
                .refused(9, "lead", 0, 6, 1).refused(9, "lead", 0, 4, 2)
                .refused(9, "lead", 0, 4, 0).refused(9, "lead", 2, 1, 3);
        c.due(20, "lead", 2, 1, 1).refused(9, "lead", 2, 1, 1).refused(9, "lead", 0, 4, 1)
                .refused(9, "go", 0, 3).due(5, "passes", 20).due(20, "go", 2, 0)
                .refused(9, "lead", 0, 4, 0).due(4, "passes", 20)
                .refused(9, "lead", 0, 2, 2);
        // 610: bob with his glasses leads ann through the glare
        c.due(40, "lead", 1, 1, 2).due(3, "passes", 40).due(0, "many", 14);
        Check rope = new Check().land("rope 3;place a;place b;road a b minutes 7;sighted e at a;"
                + "blind f at a;blind g at a;blind h at a;blind i at b;", 5);
        rope.refused(5, "lead", 0, 30, 1).refused(9, "lead", 0, 22, 1)
                .due(7, "lead", 0, 14, 1).due(15, "passes", 7).due(7, "owes", 3, 0)
                .due(1, "gone", 2, 0).due(7, "lead", 0, 16, 0).due(17, "passes", 7);
    }

    private static void turn() {
        Check c = Check.ring().refused(2, "turn", 4).refused(2, "turn", -1).refused(9, "turn", 0)
                .due(30, "lead", 0, 4, 3).due(0, "passes", 29).refused(9, "turn", 2)
                .due(1, "turn", 0).due(0, "person", 0, 0).due(0, "person", 2, 0)
                .refused(8, "person", 2, 3).refused(8, "person", 0, 1).due(0, "person", 0, 2)
                .due(0, "gone", 0, 2).due(0, "owes", 2, 0).refused(9, "turn", 0)
                .due(599, "many", 5).due(30, "go", 0, 3);
        c.due(0, "passes", 5).due(4, "person", 0, 4).due(1, "turn", 0).due(4, "person", 0, 4);
    }

    private static void cloudAndPlant() {
        Check c = Check.ring().refused(9, "cloud", 0).due(1, "cloud", 1).refused(9, "cloud", 1)
                .due(0, "passes", 60).due(0, "many", 9).due(30, "go", 0, 3).due(1, "cloud", 0)
                .due(1, "many", 9).due(0, "passes", 30).due(30, "person", 0, 2);
        c.refused(2, "plant", 4, 1).refused(2, "plant", -1, 0).refused(9, "plant", 0, 1)
                .refused(9, "plant", 1, 0).due(1, "plant", 2, 1).refused(9, "plant", 2, 1)
                .due(30, "go", 2, 3).due(1, "plant", 2, 0).due(0, "passes", 10)
                .due(30, "person", 2, 2).due(10, "person", 2, 4).due(1, "plant", 2, 1)
                .due(4, "passes", 30);
    }

    private static void glassesAndCure() {
        Check c = Check.ring().refused(2, "glasses", 4, 1).refused(2, "glasses", -1, 1)
                .refused(9, "glasses", 2, 1).refused(9, "glasses", 2, 0)
                .refused(9, "glasses", 0, 0).refused(9, "glasses", 1, 1).due(1, "glasses", 0, 1)
                .refused(9, "glasses", 0, 1).due(0, "passes", 60).due(20, "go", 0, 1)
                .due(0, "passes", 10).due(1, "glasses", 0, 0).due(0, "passes", 10)
                .due(10, "person", 0, 2).due(10, "person", 0, 4);
        c.refused(2, "cure", 4, 1).refused(2, "cure", -1, 0).refused(9, "cure", 0, 1)
                .refused(9, "cure", 2, 0).due(1, "glasses", 0, 1).due(1, "cure", 0, 0)
                .due(13, "many", 11).due(0, "person", 0, 5).due(1, "cure", 0, 1)
                .due(0, "person", 0, 5).due(12, "many", 11).due(0, "can", 0, 0)
                .due(1, "cure", 2, 1).due(8, "many", 11).due(0, "can", 2, 0)
                .due(1, "glasses", 2, 1).due(1, "can", 2, 1);
        // a sighted one in the glare has no use of the smell, or of what he knows
        Check.ring().due(1, "cure", 3, 1).due(0, "passes", 30).due(0, "can", 3, 1)
                .due(2, "gone", 3, 1).due(1, "cure", 3, 0).due(1, "can", 3, 1);
    }

    private static void settle() {
        Check c = Check.ring().refused(2, "settle", 4, 0).refused(2, "settle", 0, 4)
                .refused(2, "settle", -1, -1).refused(9, "settle", 1, 1).due(0, "settle", 0, 1);
        c.due(20, "lead", 2, 1, 1).due(5, "passes", 20).due(-20, "settle", 2, 0)
                .due(0, "owes", 0, 2).due(0, "owes", 2, 0).due(20, "lead", 2, 1, 0)
                .due(5, "passes", 20).due(20, "settle", 0, 2).due(0, "net", 2);
    }

    private static void rule() {
        Check.ring().refused(5, "rule", -1, 5).refused(5, "rule", 24, 25).refused(5, "rule", 5, 5)
                .refused(5, "rule", 6, 5).refused(5, "rule", 0, 25).refused(5, "rule", 0, 0)
                .due(1, "rule", 9, 10).due(9, "many", 3).due(10, "many", 4).due(1, "many", 9)
                .refused(9, "go", 0, 1).due(1, "rule", 0, 24).due(1, "rule", 23, 24)
                .due(0, "many", 9).due(1, "rule", 9, 10).due(1, "rule", 9, 10);
    }
}
