/** Promises 37 to 44: ways. */
public final class WaysTest {
    private static final String SQUARE = "clock 0;place a;place b;place c;place d;place e;"
            + "road a c minutes 5;road c d minutes 7;road b d minutes 5;road a b minutes 7;"
            + "sighted x at a;blind y at a;blind z at e;";

    private WaysTest() {
    }

    public static void main(String[] args) {
        soonest();
        soonestFirst();
        soonestTwo();
        meet();
        plants();
        ways();
        Check.end("WaysTest");
    }

    private static void soonest() {
        Check c = Check.ring().due(405, "soonest", 0, 2).due(0, "soonest", 0, 0)
                .due(20, "soonest", 0, 1).due(30, "soonest", 0, 3).due(20, "soonest", 2, 1)
                .refused(8, "soonest", 2, 2).refused(8, "soonest", 2, 3).due(60, "soonest", 3, 0)
                .due(50, "soonest", 1, 3).refused(2, "soonest", 4, 0).refused(2, "soonest", 0, 4)
                .refused(2, "soonest", -1, 0).refused(2, "soonest", 0, -1);
        // from 590 ann has 10 of 30 minutes to the hill ahead of the glare
        c.due(1, "cloud", 1).due(45, "soonest", 0, 2).due(1, "cloud", 0).due(0, "passes", 20)
                .due(405, "soonest", 0, 2).due(390, "soonest", 0, 3).due(1, "rule", 0, 24)
                .refused(8, "soonest", 0, 1).due(0, "soonest", 0, 0).due(40, "soonest", 1, 2)
                .due(1, "glasses", 0, 1).due(45, "soonest", 0, 2).due(30, "go", 0, 3)
                .refused(9, "soonest", 0, 3).refused(9, "soonest", 0, 0);
        Check late = new Check().land("clock 1439;glare 15 to 16;place a;place b;"
                + "road a b minutes 90;sighted x at a;", 1);
        for (int i = 0; i < 98; i++) {
            late.due(0, "passes", 999);
        }
        late.due(0, "passes", 658).due(99999, "many", 5).due(90, "soonest", 0, 1);
    }

    private static void soonestFirst() {
        Check c = Check.ring().due(3, "soonestFirst", 0, 2).due(1, "soonestFirst", 3, 0)
                .due(0, "soonestFirst", 1, 3).due(1, "soonestFirst", 0, 1)
                .refused(9, "soonestFirst", 0, 0).refused(8, "soonestFirst", 2, 2)
                .refused(2, "soonestFirst", 4, 0).refused(2, "soonestFirst", 0, 4);
        c.due(20, "go", 1, 0).refused(9, "soonestFirst", 1, 2).refused(9, "soonest", 1, 2);
        // two ways of 12 minutes each: by b, and by c
        new Check().land(SQUARE, 3).due(12, "soonest", 0, 3).due(1, "soonestFirst", 0, 3)
                .due(2, "soonestFirst", 0, 2).refused(8, "soonestFirst", 0, 4)
                .refused(8, "soonest", 0, 4).refused(9, "soonestFirst", 2, 4);
    }

    private static void soonestTwo() {
        Check c = Check.ring().due(45, "soonestTwo", 0, 2, 2).due(45, "soonestTwo", 2, 0, 2)
                .due(0, "soonestTwo", 0, 2, 0).refused(9, "soonestTwo", 0, 1, 2)
                .refused(9, "soonestTwo", 0, 0, 2).refused(2, "soonestTwo", 4, 0, 0)
                .refused(2, "soonestTwo", 0, 4, 0).refused(2, "soonestTwo", 0, 2, 4)
                .refused(2, "soonestTwo", 0, 0, -1);
        // from 590 ann leads for 10 minutes ahead of the glare and 20 behind it, then cid
        c.due(0, "passes", 20).due(405, "soonestTwo", 0, 2, 2).due(20, "soonestTwo", 2, 0, 1)
                .due(1, "rule", 0, 24).refused(8, "soonestTwo", 0, 2, 2)
                .due(20, "soonestTwo", 0, 2, 1).due(20, "lead", 2, 1, 1)
                .refused(9, "soonestTwo", 0, 2, 1);
        new Check().land("place a;place b;road a b minutes 5;blind x at a;blind y at a;", 2)
                .refused(8, "soonestTwo", 0, 1, 1).due(0, "soonestTwo", 0, 1, 0);
    }

    private static void meet() {
        Check c = Check.ring().due(3, "meet", 0, 3).due(30, "meetIn", 0, 3).due(3, "meet", 3, 0)
                .due(1, "meet", 2, 3).due(40, "meetIn", 2, 3).due(0, "meet", 0, 2)
                .due(0, "meetIn", 0, 2).refused(9, "meet", 1, 1).refused(9, "meetIn", 1, 1)
                .refused(2, "meet", 4, 0).refused(2, "meet", 0, 4).refused(2, "meetIn", -1, 0)
                .refused(2, "meetIn", 0, -1).due(0, "meet", 0, 1).due(20, "meetIn", 0, 1);
        c.due(20, "go", 1, 0).refused(9, "meet", 1, 0).refused(9, "meetIn", 0, 1);
        new Check().land(SQUARE, 3).refused(8, "meet", 0, 2).refused(8, "meetIn", 1, 2)
                .refused(8, "meet", 2, 0);
    }

    private static void plants() {
        Check c = Check.ring().due(1, "plants", 2, 2).due(2, "plantSet", 2, 2)
                .due(1, "plants", 2, 3).due(2, "plantSet", 2, 3).due(0, "plants", 2, 1)
                .due(0, "plantSet", 2, 1).due(0, "plants", 2, 0).due(0, "plantSet", 2, 0)
                .due(0, "plants", 3, 0).due(0, "plantSet", 3, 0).refused(9, "plants", 0, 1)
                .refused(9, "plantSet", 1, 1).refused(2, "plants", 4, 0)
                .refused(2, "plants", 2, 4).refused(2, "plantSet", -1, 0)
                .refused(2, "plantSet", 2, -1);
        c.due(1, "plant", 3, 0).due(1, "plants", 2, 3).due(4, "plantSet", 2, 3)
                .due(2, "plantSet", 2, 2).due(0, "passes", 40).due(1, "plants", 2, 2)
                .due(20, "go", 2, 1).refused(9, "plants", 2, 2).refused(9, "plantSet", 2, 2);
        // to d: roads 0 and 1 (3) or 2 and 3 (12)
        new Check().land(SQUARE, 3).due(2, "plants", 1, 3).due(3, "plantSet", 1, 3)
                .due(8, "plantSet", 1, 1).due(1, "plant", 3, 1).due(4, "plantSet", 1, 3)
                .due(1, "plants", 1, 3).refused(8, "plants", 1, 4).refused(8, "plantSet", 2, 0)
                .due(0, "plants", 2, 4);
        // three roads in a row by low numbers cost more than one by a high one
        new Check().land("place a;place b;place c;place d;road a b minutes 1;road b c minutes 1;"
                + "road c d minutes 1;road a d minutes 99;blind x at a;", 1)
                .due(1, "plants", 0, 3).due(8, "plantSet", 0, 3).due(3, "plantSet", 0, 2);
    }

    private static void ways() {
        Check c = Check.ring().due(2, "ways", 0, 0, 2, 2).due(0, "ways", 2, 0, 2, 2)
                .due(1, "ways", 2, 0, 0, 2).due(1, "ways", 0, 0, 0, 0).due(0, "ways", 0, 0, 1, 0)
                .due(512, "ways", 0, 0, 0, 10).due(0, "ways", 0, 0, 1, 10)
                .due(256, "ways", 1, 0, 1, 9).due(1, "ways", 3, 3, 0, 3)
                .refused(5, "ways", 0, 0, 0, 11).refused(5, "ways", 0, 0, 0, -1)
                .refused(2, "ways", 4, 0, 0, 1).refused(2, "ways", 0, 4, 0, 1)
                .refused(2, "ways", 0, 0, 4, 11).refused(2, "ways", -1, 0, 0, 1);
        c.due(0, "passes", 30).due(2, "ways", 0, 0, 2, 2).due(20, "go", 2, 1)
                .due(1, "ways", 2, 0, 0, 2).due(1, "plant", 2, 1).due(2, "ways", 2, 0, 0, 2);
    }
}
