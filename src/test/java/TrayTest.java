/** Promises 1 to 8: a new object, STATUS, the FRACTION, TRAYS. */
public final class TrayTest {
    private TrayTest() {
    }

    public static void main(String[] args) {
        newObject();
        statusAndFraction();
        tray();
        write();
        read();
        pour();
        Check.end("TrayTest");
    }

    private static void newObject() {
        new Check().tells(0, "status").tells(0, "top").tells(1, "bottom").tells(-1, "fault", 0)
                .tells(-1, "fault", 1).refused(3, "read", 0, 0).refused(3, "read", 3, 0)
                .due(0, "many", 0).due(0, "many", 1).due(0, "many", 2).due(10, "many", 3)
                .due(16, "many", 4).due(480, "many", 5).due(9, "many", 6).due(3, "many", 7)
                .due(4, "many", 8).due(0, "many", 9).due(0, "many", 10).due(0, "many", 11)
                .due(0, "many", 12).due(0, "many", 13).due(0, "many", 14).refused(8, "live", 0)
                .refused(8, "lived", 0).refused(8, "back").refused(5, "land", 1)
                .refused(2, "person", 0, 0).tells(20, "feed", 0, 0, 0, 0, 0);
    }

    private static void statusAndFraction() {
        Check c = Check.ring();
        c.refused(5, "many", 15).tells(5, "status").due(4, "many", 0).tells(0, "status")
                .due(1, "clouds", 2, 1).tells(3, "top").tells(4, "bottom").tells(0, "status")
                .refused(5, "clouds", 13, 1).tells(3, "top").tells(4, "bottom").tells(5, "status")
                .due(1, "clouds", 1, 2).tells(0, "top").tells(1, "bottom")
                .tells(20, "feed", 1, 2, 3, 4, 5).tells(0, "fault", 0).tells(0, "status");
    }

    private static void tray() {
        new Check().refused(1, "tray", -1, 0, 3).refused(1, "tray", 4, 0, 3)
                .refused(1, "tray", 0, -1, 3).refused(1, "tray", 0, 4, 3)
                .refused(1, "tray", 4, 0, 61).refused(1, "tray", 0, 4, -1)
                .refused(5, "tray", 0, 0, 61).refused(5, "tray", 0, 0, Integer.MAX_VALUE)
                .refused(6, "tray", 0, 0, -1).refused(6, "tray", 0, 0, Integer.MIN_VALUE)
                .due(1, "tray", 0, 0, 60).due(0, "read", 0, 59).refused(4, "read", 0, 60)
                .due(1, "write", 0, 59, 5).due(1, "tray", 0, 3, 60).due(0, "read", 0, 59)
                .due(1, "tray", 3, 3, 0).refused(4, "read", 3, 0).refused(4, "read", 3, -1);
    }

    private static void write() {
        new Check().due(1, "tray", 0, 0, 2).due(1, "tray", 1, 1, 2).due(1, "tray", 2, 2, 2)
                .due(1, "tray", 3, 3, 2).refused(1, "write", 4, 0, 1).refused(1, "write", -1, 0, 1)
                .refused(4, "write", 0, 2, 1).refused(4, "write", 0, -1, 1)
                .due(1, "write", 0, 0, 127).due(127, "read", 0, 0).due(1, "write", 0, 0, 128)
                .due(-128, "read", 0, 0).due(1, "write", 0, 1, 511).due(-1, "read", 0, 1)
                .due(1, "write", 1, 0, 32767).due(32767, "read", 1, 0).due(1, "write", 1, 0, 32768)
                .due(-32768, "read", 1, 0).due(1, "write", 2, 0, 2147483647L)
                .due(2147483647L, "read", 2, 0).due(1, "write", 2, 0, 2147483648L)
                .due(-2147483648L, "read", 2, 0).due(1, "write", 3, 0, Long.MIN_VALUE)
                .due(Long.MIN_VALUE, "read", 3, 0).due(1, "write", 3, 1, Long.MAX_VALUE)
                .due(Long.MAX_VALUE, "read", 3, 1);
        new Check().refused(3, "write", 0, 0, 1).refused(3, "write", 0, -1, 1);
    }

    private static void read() {
        new Check().refused(1, "read", -1, 0).refused(1, "read", 4, 0).refused(3, "read", 2, 0)
                .due(1, "tray", 2, 1, 3).refused(4, "read", 2, 3).refused(4, "read", 2, -1)
                .refused(4, "read", 2, Integer.MAX_VALUE).refused(4, "read", 2, Integer.MIN_VALUE)
                .due(1, "write", 2, 2, -1).due(-1, "read", 2, 2).due(0, "read", 2, 1);
    }

    private static Check twoTrays() {
        Check c = new Check().due(1, "tray", 0, 1, 5).due(1, "tray", 1, 1, 3)
                .due(1, "tray", 2, 2, 5);
        for (int i = 0; i < 5; i++) {
            c.due(1, "write", 0, i, 11 + i);
        }
        return c;
    }

    private static void pour() {
        twoTrays().due(1, "pour", 0, 1, 1, 0, 3).due(12, "read", 1, 0).due(14, "read", 1, 2)
                .due(12, "read", 0, 1);
        twoTrays().due(1, "pour", 0, 0, 0, 1, 4).due(11, "read", 0, 0).due(11, "read", 0, 1)
                .due(12, "read", 0, 2).due(14, "read", 0, 4);
        twoTrays().due(1, "pour", 0, 1, 0, 0, 4).due(12, "read", 0, 0).due(15, "read", 0, 3)
                .due(15, "read", 0, 4);
        twoTrays().due(1, "pour", 0, 5, 1, 3, 0).refused(4, "pour", 0, 6, 1, 0, 0)
                .refused(4, "pour", 0, 0, 1, 4, 0).refused(4, "pour", 0, -1, 1, 0, 0)
                .refused(4, "pour", 0, 0, 1, -1, 1).refused(4, "pour", 0, 3, 1, 0, 3)
                .refused(4, "pour", 0, 0, 1, 1, 3).refused(4, "pour", 0, 0, 1, 0, 4)
                .refused(4, "pour", 0, 1, 1, 1, Integer.MAX_VALUE)
                .refused(4, "pour", 0, Integer.MAX_VALUE, 1, 0, 1)
                .refused(1, "pour", 4, 0, 3, 0, 1).refused(1, "pour", 0, 0, -1, 0, 1)
                .refused(1, "pour", 3, 0, 4, 0, -1).refused(3, "pour", 3, 0, 0, 0, 1)
                .refused(3, "pour", 0, 0, 3, 0, -1).refused(11, "pour", 0, 0, 2, 0, -1)
                .refused(11, "pour", 0, 9, 2, 0, 1).refused(6, "pour", 0, 9, 1, 0, -1);
    }
}
