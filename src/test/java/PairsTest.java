/** Promises 45 to 48: who with whom. */
public final class PairsTest {
    private PairsTest() {
    }

    public static void main(String[] args) {
        pairs();
        unlike();
        nobody();
        dearest();
        Check.end("PairsTest");
    }

    private static void pairs() {
        Check c = Check.ring().due(2, "pair", 0).due(3, "pair", 1).due(0, "pair", 2)
                .due(1, "pair", 3).due(2, "pairs").due(0, "pairsOwe").refused(2, "pair", 4)
                .refused(2, "pair", -1);
        // ann owes cid 20: she likes dot better, who owes her nothing
        c.due(20, "lead", 2, 1, 1).due(3, "pair", 1).due(5, "passes", 20)
                .due(3, "pair", 0).due(2, "pair", 1).due(0, "pairsOwe");
        // bob leads cid to the mine: cid owes him 40
        c.due(40, "lead", 1, 4, 2).due(6, "passes", 40).due(2, "pair", 1).due(40, "pairsOwe");
        // ann and bob sighted, cid the only one blind: cid keeps ann, who owes him
        c.due(1, "cure", 3, 1).due(1, "pairs").due(0, "pair", 2).refused(8, "pair", 1)
                .refused(8, "pair", 3).due(20, "pairsOwe");
    }

    private static void unlike() {
        // a, b sighted; c, d, e blind; b leads d, a leads d more, c leads b
        Check c = new Check().land("clock 0;place p;place q;road p q minutes 9 smells;"
                + "sighted a at p;sighted b at p;blind c at p;blind d at p;blind e at p;", 5);
        c.due(9, "lead", 1, 8, 1).due(10, "passes", 9).due(3, "pair", 1).due(2, "pair", 0)
                .due(9, "pairsOwe").refused(8, "pair", 4);
        c.due(9, "lead", 1, 8, 0).due(10, "passes", 9).due(9, "lead", 0, 8, 1)
                .due(9, "passes", 9).due(9, "owes", 3, 0).due(18, "owes", 3, 1)
                // d owes both; d likes the one who owes him most, a with -9
                .due(3, "pair", 0).due(2, "pair", 1).due(9, "pairsOwe");
        c.due(9, "lead", 2, 2, 1).due(6, "passes", 9).due(9, "owes", 1, 2)
                .due(4, "pair", 1).due(3, "pair", 0).refused(8, "pair", 2).due(2, "pairs")
                .due(9, "pairsOwe");
    }

    private static void nobody() {
        new Check().due(0, "pairs").due(0, "pairsOwe").refused(2, "pair", 0)
                .land("place a;sighted x at a;sighted y at a;", 2).due(0, "pairs")
                .refused(8, "pair", 0).refused(8, "pair", 1).due(0, "pairsOwe")
                .land("place a;blind x at a;", 1).due(0, "pairs").refused(8, "pair", 0);
    }

    private static void dearest() {
        Check c = Check.ring().refused(8, "dearest", 0).refused(2, "dearest", 4)
                .refused(2, "dearest", -1).due(20, "lead", 2, 1, 1).due(5, "passes", 20)
                .due(2, "dearest", 0).refused(8, "dearest", 2).due(20, "lead", 1, 5, 0)
                .due(7, "passes", 20).due(1, "dearest", 0).due(1, "dearest", 2)
                .refused(8, "dearest", 1);
        c.due(20, "lead", 2, 1, 1).due(5, "passes", 20).due(2, "dearest", 0)
                .due(20, "settle", 0, 1).due(40, "settle", 0, 2).refused(8, "dearest", 0);
    }
}
