/** Promises 57 and 58: MARKS. */
public final class MarksTest {
    private MarksTest() {
    }

    public static void main(String[] args) {
        marks();
        kept();
        notKept();
        Check.end("MarksTest");
    }

    private static void marks() {
        Check.ring().refused(8, "back").due(1, "mark").due(2, "mark").due(3, "mark")
                .refused(7, "mark").due(2, "back").due(3, "mark").due(2, "back").due(1, "back")
                .due(0, "back").refused(8, "back").due(1, "mark");
    }

    private static void kept() {
        Check c = Check.ring().days("wait 7;", 1).due(1, "mark").due(20, "lead", 2, 1, 1)
                .due(2, "mark").due(0, "passes", 15).due(3, "mark").due(5, "passes", 5)
                .due(1, "cloud", 1).due(1, "plant", 0, 0).due(1, "cure", 0, 0).due(1, "rule", 1, 2)
                .due(1, "glasses", 1, 0).days("any;any;", 2).due(40, "lead", 1, 4, 2)
                .land("place z;", 0);
        c.due(2, "back").due(585, "many", 5).due(5, "person", 0, 2).due(2, "person", 0, 3)
                .due(0, "gone", 0, 0).due(0, "owes", 0, 2).due(1, "person", 1, 5)
                .due(12, "many", 11).due(10, "many", 3).due(0, "many", 10).due(1, "road", 0, 3)
                .due(1, "live", 0).due(7, "lived", 1).due(20, "owes", 0, 2);
        c.due(1, "back").due(570, "many", 5).due(20, "person", 0, 2).due(5, "many", 12)
                .due(1, "turn", 2).due(0, "back").due(0, "many", 12).due(0, "person", 0, 0)
                .due(1, "live", 0);
        // no DAYS at the MARK: none behind it; lost minutes and debts come back with it
        Check d = Check.ring().due(1, "mark").days("stop;", 1).due(0, "back").refused(8, "live", 0);
        d.due(0, "passes", 25).due(30, "lead", 0, 4, 3).due(0, "passes", 350)
                .due(690, "many", 14).due(1, "mark").due(5, "passes", 100).due(30, "owes", 2, 0)
                .due(0, "back").due(690, "many", 14).due(0, "owes", 2, 0).due(945, "many", 5)
                .due(5, "passes", 100).due(30, "net", 0);
    }

    private static void notKept() {
        Check c = Check.ring().days("wait 7;", 1).due(1, "tray", 0, 0, 2).due(1, "mark")
                .due(1, "write", 0, 0, 5).due(1, "tray", 1, 0, 1).due(1, "clouds", 2, 1)
                .due(1, "live", 0).tells(20, "feed", 0, 0, 0, 0, 0).due(0, "back")
                .due(5, "read", 0, 0).due(0, "read", 1, 0).tells(3, "top").tells(4, "bottom")
                .due(7, "lived", 1).tells(40, "feed", 0, 0, 0, 0, 0).tells(0, "fault", 0)
                .due(570, "many", 5);
    }
}
