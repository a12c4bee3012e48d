import com.sun.management.ThreadMXBean;
import java.lang.management.ManagementFactory;

/** No call makes anything: all rows are made with the object, for all the calls that it is used for. */
public final class RoomTest {
    private static final ThreadMXBean COUNTER =
            (ThreadMXBean) ManagementFactory.getThreadMXBean();

    private RoomTest() {
    }

    private static long made() {
        return COUNTER.getThreadAllocatedBytes(Thread.currentThread().getId());
    }

    private static void bring(NoonGuides x, long[][] feeds) {
        for (long[] five : feeds) {
            Calls.on(x, "feed", five);
        }
    }

    private static void playAll(NoonGuides x, long[][] land, long[][] days, int length) {
        bring(x, land);
        x.land(Check.RING.length());
        bring(x, days);
        x.days(length);
        x.mark();
        x.live(5);
        x.mean(0, 20);
        x.back();
        x.lead(2, 1, 1);
        x.passes(20);
        x.soonest(0, 2);
        x.soonestFirst(0, 2);
        x.soonestTwo(0, 2, 2);
        x.meet(0, 3);
        x.plants(2, 2);
        x.ways(0, 0, 2, 10);
        x.pairs();
        x.clouds(12, 3);
        x.bestFrom(999);
        x.tray(0, 3, 60);
        x.pour(0, 0, 0, 10, 50);
        x.copyPlaces(0);
        x.fault(0);
    }

    public static void main(String[] args) {
        String text = "loop 99;any;wait 9;end;stop;";
        long[][] land = Calls.feeds(Check.RING);
        long[][] days = Calls.feeds(text);
        playAll(new NoonGuides(), land, days, text.length());
        made();
        long before = made();
        NoonGuides x = new NoonGuides();
        long object = made() - before;
        before = made();
        for (int i = 0; i < 20; i++) {
            playAll(x, land, days, text.length());
        }
        long calls = made() - before;
        System.out.println("an object: " + object + " bytes; 20 rounds of calls: " + calls);
        Check.same("an object is small", object < 40000, true);
        Check.same("calls make nothing", calls < 2000, true);
        toTheLastCall(land, days, text.length());
        Check.end("RoomTest");
    }

    /** "An object is used for at most 512 calls": the dearest ones answer to the last as at first. */
    private static void toTheLastCall(long[][] land, long[][] days, int length) {
        NoonGuides x = new NoonGuides();
        bring(x, land);
        x.land(Check.RING.length());
        bring(x, days);
        x.days(length);
        x.passes(20);
        int asked = land.length + days.length + 3;
        String[] names = {"mean", "top", "bottom", "bestFrom", "soonestFirst", "soonestTwo", "meet",
            "plantSet", "ways", "pairsOwe", "lostIn", "reach", "many"};
        long[][] arguments = {{9980, 20}, {}, {}, {999}, {0, 2}, {0, 2, 3}, {0, 3}, {2, 2},
            {0, 0, 2, 10}, {}, {999}, {3}, {5}};
        long[] first = new long[names.length];
        for (int i = 0; asked < 512; i++, asked++) {
            int at = i % names.length;
            long got = Calls.on(x, names[at], arguments[at]);
            first[at] = i < names.length ? got : first[at];
            Check.same("call " + asked + ", " + names[at], got, first[at]);
            Check.same("call " + asked + " status", x.status(), 0);
        }
        Check.same("the minute", first[names.length - 1], 590L);
    }
}
