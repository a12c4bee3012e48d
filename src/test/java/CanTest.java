/** Promises 31 to 36: who can. */
public final class CanTest {
    private CanTest() {
    }

    public static void main(String[] args) {
        glareAt();
        can();
        guides();
        stuck();
        reach();
        nextGlare();
        Check.end("CanTest");
    }

    private static void glareAt() {
        Check.ring().due(0, "glareAt", 0).due(0, "glareAt", 599).due(1, "glareAt", 600)
                .due(1, "glareAt", 959).due(0, "glareAt", 960).due(1, "glareAt", 1440 + 600)
                .due(1, "glareAt", 99999).refused(5, "glareAt", 100000).refused(5, "glareAt", -1)
                .due(1, "cloud", 1).due(0, "glareAt", 700).due(1, "cloud", 0)
                .due(1, "rule", 0, 24).due(1, "glareAt", 0).due(1, "glareAt", 99999);
    }

    private static void can() {
        Check c = Check.ring().due(1, "can", 0, 0).due(1, "can", 0, 3).due(1, "can", 1, 2)
                .due(1, "can", 2, 0).due(0, "can", 2, 1).due(1, "can", 3, 1).due(0, "can", 3, 2)
                .refused(2, "can", 4, 0).refused(2, "can", -1, 0).refused(2, "can", 0, 4)
                .refused(2, "can", 0, -1);
        c.due(0, "passes", 30).due(0, "can", 0, 0).due(0, "can", 0, 1).due(1, "can", 1, 2)
                .due(1, "can", 2, 0).due(20, "go", 2, 1).due(1, "can", 2, 0).due(1, "cloud", 1)
                .due(1, "can", 0, 1);
    }

    private static void guides() {
        Check c = Check.ring().due(5, "guides", 0, 1).due(1, "guides", 0, 3).due(2, "guides", 1, 0)
                .due(8, "guides", 2, 1).due(0, "guides", 3, 2).refused(9, "guides", 0, 2)
                .refused(9, "guides", 1, 1).refused(2, "guides", 4, 0).refused(2, "guides", 0, 4)
                .refused(2, "guides", -1, 0).refused(2, "guides", 0, -1);
        c.due(0, "passes", 30).due(4, "guides", 0, 1).due(0, "guides", 0, 3).due(20, "go", 2, 1)
                .due(0, "guides", 0, 1);
    }

    private static void stuck() {
        Check c = Check.ring().due(0, "stuck").due(0, "passes", 30).due(1, "stuck")
                .due(1, "plant", 0, 0).due(5, "stuck").due(1, "plant", 3, 0).due(5, "stuck");
        c.due(1, "cloud", 1).due(30, "lead", 0, 4, 3).due(1, "cloud", 0).due(0, "stuck");
        new Check().due(0, "stuck").land("place a;sighted x at a;blind y at a;", 2)
                .due(3, "stuck");
    }

    private static void reach() {
        Check c = Check.ring().due(15, "reach", 0).due(15, "reach", 1).due(3, "reach", 2)
                .due(15, "reach", 3).refused(2, "reach", 4).refused(2, "reach", -1)
                .due(1, "plant", 0, 0).due(1, "reach", 2).due(14, "reach", 3)
                .due(0, "passes", 30).due(1, "reach", 0).due(15, "reach", 1);
        c.due(20, "go", 1, 0).refused(9, "reach", 1).due(2, "passes", 20)
                .due(30, "lead", 1, 1, 3).refused(9, "reach", 0);
    }

    private static void nextGlare() {
        Check c = Check.ring().due(30, "nextGlare", 1).due(0, "nextGlare", 0)
                .refused(5, "nextGlare", 2).refused(5, "nextGlare", -1).due(0, "passes", 30)
                .due(0, "nextGlare", 1).due(360, "nextGlare", 0).due(0, "passes", 359)
                .due(0, "nextGlare", 1).due(1, "nextGlare", 0).due(0, "passes", 1)
                .due(1080, "nextGlare", 1).due(0, "nextGlare", 0);
        c.due(1, "cloud", 1).refused(8, "nextGlare", 1).due(0, "nextGlare", 0)
                .due(1, "cloud", 0).due(1, "rule", 0, 24).refused(8, "nextGlare", 0)
                .due(0, "nextGlare", 1).due(1, "rule", 0, 23).due(420, "nextGlare", 0);
    }
}
