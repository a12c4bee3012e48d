/** "2 no such PLACE, ROAD, PERSON" - of each call that names one: the last that there is and the
 * first that there is not, on either side, and that 2 comes ahead of all else. */
public final class IndexTest {
    /** A call, what each argument is (p PERSON, l PLACE, r ROAD, - none), and arguments that can be
     * on the full land. */
    private static final Object[][] CALLS = {
        {"road", "r-", 11, 3}, {"road", "r-", 0, 0}, {"roadOf", "ll", 7, 0}, {"roadOf", "ll", 0, 7},
        {"person", "p-", 7, 0}, {"person", "p-", 0, 0}, {"gone", "pr", 7, 11},
        {"gone", "pr", 0, 0}, {"owes", "pp", 7, 0}, {"owes", "pp", 0, 7}, {"net", "p", 7},
        {"net", "p", 0}, {"go", "pl", 7, 7}, {"go", "pl", 0, 1}, {"lead", "p-l", 7, 1, 7},
        {"lead", "p-l", 0, 128, 1}, {"plant", "r-", 11, 1}, {"plant", "r-", 0, 0},
        {"glasses", "p-", 7, 1}, {"glasses", "p-", 2, 1}, {"cure", "p-", 7, 0},
        {"cure", "p-", 0, 1}, {"settle", "pp", 7, 0}, {"settle", "pp", 0, 7}, {"can", "pr", 7, 11},
        {"can", "pr", 0, 0}, {"guides", "ll", 7, 0}, {"guides", "ll", 0, 7}, {"reach", "p", 7},
        {"reach", "p", 0}, {"soonest", "pl", 7, 7}, {"soonest", "pl", 0, 0},
        {"soonestFirst", "pl", 7, 7}, {"soonestFirst", "pl", 0, 1},
        {"soonestTwo", "ppl", 7, 0, 7}, {"soonestTwo", "ppl", 0, 7, 0}, {"meet", "pp", 7, 0},
        {"meet", "pp", 0, 7}, {"meetIn", "pp", 7, 0}, {"meetIn", "pp", 0, 7},
        {"plants", "pl", 5, 7}, {"plants", "pl", 0, 0}, {"plantSet", "pl", 5, 7},
        {"plantSet", "pl", 0, 0}, {"ways", "pll-", 7, 7, 7, 0}, {"ways", "pll-", 0, 0, 0, 10},
        {"pair", "p", 7}, {"pair", "p", 0}, {"dearest", "p", 6}, {"dearest", "p", 3}};
    /** Those that ask whether a PERSON is on a ROAD. */
    private static final Object[][] ON_A_ROAD = {{"turn", "p", 7}, {"turn", "p", 0},
        {"arrives", "p", 7}, {"arrives", "p", 0}};

    private IndexTest() {
    }

    public static void main(String[] args) {
        for (Object[] call : CALLS) {
            all(call, false);
        }
        for (Object[] call : ON_A_ROAD) {
            all(call, true);
        }
        Check.end("IndexTest");
    }

    /** In the full land 0 leads t, and 7 leads u: t owes 0 then, and u owes 7. */
    private static Check full(boolean isOnARoad) {
        Check c = new Check().land(Lands.full(), 8).due(1, "lead", 0, 8, 1).due(1, "lead", 7, 64, 1)
                .due(201, "passes", 1);
        for (int p : new int[] {0, 3, 6, 7}) {
            c.due(1, "go", p, 0);
        }
        c.due(201, "passes", 1);
        return isOnARoad ? c.due(1, "go", 0, 1).due(99, "go", 7, 7) : c;
    }

    private static void all(Object[] call, boolean isOnARoad) {
        String name = (String) call[0];
        String kinds = (String) call[1];
        long[] a = new long[kinds.length()];
        for (int i = 0; i < a.length; i++) {
            a[i] = (Integer) call[i + 2];
        }
        long want = Calls.on(made(isOnARoad), name, a);
        Check can = full(isOnARoad);
        can.due(want, name, a);
        Check full = full(isOnARoad);
        Check empty = new Check();
        for (int i = 0; i < a.length; i++) {
            if (kinds.charAt(i) == '-') {
                continue;
            }
            long last = a[i];
            int count = kinds.charAt(i) == 'r' ? 12 : 8;
            for (long no : new long[] {-1, count, count + 1, 32, 64, Lands.MOST, Lands.LEAST}) {
                a[i] = no;
                full.refused(2, name, a);
                // ahead of all else that can be told of the others
                full.refused(2, name, spoiled(kinds, a, i));
            }
            a[i] = last;
        }
        empty.refused(2, name, a).refused(2, name, new long[a.length]);
    }

    private static NoonGuides made(boolean isOnARoad) {
        return full(isOnARoad).made();
    }

    /** The same no such one everywhere, and numbers that can't be. */
    private static long[] spoiled(String kinds, long[] a, int at) {
        long[] b = a.clone();
        for (int i = 0; i < b.length; i++) {
            b[i] = kinds.charAt(i) == '-' ? -5 : a[at];
        }
        return b;
    }
}
