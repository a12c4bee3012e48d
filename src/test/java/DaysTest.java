/** Promises 54 to 56: DAYS. */
public final class DaysTest {
    private DaysTest() {
    }

    public static void main(String[] args) {
        calls();
        steps();
        missed();
        whens();
        loops();
        cutOff();
        draws();
        lateMinutes();
        mean();
        Check.end("DaysTest");
    }

    /** What lived tells, in the order of its numbers. */
    private static Check lived(Check c, int missed, int minutes, int came, int lost, int cut) {
        return c.due(missed, "lived", 0).due(minutes, "lived", 1).due(came, "lived", 2)
                .due(lost, "lived", 3).due(cut, "lived", 4);
    }

    private static void calls() {
        Check c = Check.ring().refused(8, "live", 0).refused(5, "live", -1)
                .refused(5, "live", 10000).refused(8, "lived", 0).refused(5, "lived", 5)
                .refused(5, "lived", -1).days("", 0).due(0, "live", 9999);
        lived(c, 0, 0, 0, 0, 0).refused(5, "live", 10000).refused(5, "lived", 5)
                .days("wait 5;cloud;cloud;", 3).due(0, "lived", 1).due(3, "live", 0);
        lived(c, 1, 5, 0, 0, 0).due(575, "many", 5).due(1, "many", 10).due(3, "live", 0);
        lived(c, 2, 5, 0, 0, 0).due(580, "many", 5);
        c.land("place a;", 0).refused(8, "live", 0).due(2, "lived", 0);
    }

    private static void steps() {
        Check c = Check.ring().days("go ann hill;lead cid ann well;wait 20;lead ann cid hill;"
                + "wait 25;", 5).due(5, "live", 0);
        // ann is on her road at 590; at 615 she has had 10 minutes of glare less
        lived(c, 2, 45, 1, 0, 0).due(3, "person", 0, 0).due(0, "person", 2, 0);
        c = Check.ring().days("lead cid ann well;wait 20;lead ann cid mine;wait 30;", 4)
                .due(4, "live", 0);
        lived(c, 0, 50, 2, 40, 0).due(30, "person", 0, 2).due(20, "owes", 0, 2)
                .due(0, "person", 2, 3).due(1, "gone", 2, 0).due(4, "live", 0)
                .due(2, "lived", 0);
    }

    private static void missed() {
        Check c = Check.ring().days("go cid hill;lead cid ann hill;lead ann dot well;clear;cloud;"
                + "cloud;clear;clear;go dot hill;go dot well;stop;any;", 12).due(11, "live", 0);
        lived(c, 7, 0, 0, 0, 0).due(3, "person", 3, 1).due(0, "many", 10);
        new Check().days("any;any;wait 5;", 3).due(3, "live", 7).due(2, "lived", 0)
                .due(5, "lived", 1);
    }

    private static void whens() {
        Check c = Check.ring().days("when at ann town;wait 1;end;when at ann well;wait 2;end;"
                + "when glare;wait 4;end;wait 30;when glare;wait 8;end;", 9).due(7, "live", 0);
        lived(c, 0, 39, 0, 0, 0);
        Check lost = Check.ring().due(0, "passes", 20).due(30, "lead", 0, 4, 3)
                .due(0, "passes", 14).due(4, "person", 0, 4).days("when lost ann < 4;stop;end;"
                + "when lost ann > 4;stop;end;when lost ann = 4;wait 1;end;"
                + "when lost cid > 4;cloud;end;when lost dot < 1;go dot hill;end;", 10)
                .due(8, "live", 0);
        lived(lost, 0, 1, 0, 2, 0).due(1, "many", 10).due(3, "person", 3, 1);
        // one on a road is at no place; a when that does not hold is left with all in it
        Check.ring().due(30, "go", 0, 3).days("when at ann town;loop 3;when glare;end;end;end;"
                + "when at ann hill;end;wait 1;", 5).due(3, "live", 0);
    }

    private static void loops() {
        Check c = Check.ring().days("loop 3;wait 1;loop 2;wait 10;end;end;", 4)
                .due(13, "live", 0);
        lived(c, 0, 63, 0, 0, 0);
        Check.ring().days("loop 99;end;loop 99;loop 99;end;end;", 3).due(101, "live", 0)
                .due(0, "lived", 4);
        Check.ring().days("loop 5;wait 1;when glare;stop;end;wait 20;end;", 5).due(10, "live", 0)
                .due(43, "lived", 1);
        Check.ring().days("loop 2;wait 30;stop;end;wait 5;", 4).due(3, "live", 0)
                .due(30, "lived", 1).due(0, "lived", 4);
    }

    private static void cutOff() {
        Check exact = Check.ring().days("loop 99;cloud;clear;cloud;end;clear;clear;", 6)
                .due(300, "live", 0);
        // 1 and 297 are 298, and two more; nothing is left
        lived(exact, 99, 0, 0, 0, 0);
        Check.ring().days("loop 99;cloud;clear;cloud;end;clear;clear;any;", 7)
                .due(300, "live", 0).due(1, "lived", 4);
        Check.ring().days("loop 99;cloud;clear;cloud;end;clear;clear;stop;", 7)
                .due(300, "live", 0).due(1, "lived", 4);
        Check.ring().days("loop 99;cloud;clear;cloud;end;clear;stop;clear;", 7)
                .due(300, "live", 0).due(0, "lived", 4);
        // the last step is a when: what stands in it is left if it holds, else what is behind it
        Check.ring().days("loop 99;cloud;clear;cloud;end;clear;when glare;any;end;", 7)
                .due(300, "live", 0).due(0, "lived", 4);
        Check.ring().days("loop 99;cloud;clear;cloud;end;clear;when at ann town;any;end;", 7)
                .due(300, "live", 0).due(1, "lived", 4);
        Check.ring().days("loop 99;cloud;clear;cloud;end;clear;when at ann town;end;", 6)
                .due(300, "live", 0).due(0, "lived", 4);
        Check.ring().days("loop 99;cloud;clear;cloud;end;clear;loop 99;end;", 6)
                .due(300, "live", 0).due(0, "lived", 4);
        Check.ring().days("loop 50;wait 1;loop 2;wait 1;wait 1;end;end;", 5)
                .due(300, "live", 0).due(1, "lived", 4).due(249, "lived", 1);
    }

    private static void draws() {
        // seed 0: bob to the well, where he is; seed 5: cid to the well, ann to the well
        Check c = Check.ring().days("any;", 1).due(1, "live", 0);
        lived(c, 1, 0, 0, 0, 0).due(0, "many", 12).due(1, "live", 5);
        lived(c, 0, 0, 0, 0, 0).due(4, "many", 12).due(1, "person", 2, 1).due(20, "person", 2, 2);
        Check.ring().days("any;any;", 2).due(2, "live", 5).due(0, "lived", 0).due(5, "many", 12)
                .due(1, "person", 0, 1);
        // with seed 5 the first draws are missed on a road, and the next come all the same
        Check.ring().due(20, "go", 2, 1).days("any;any;", 2).due(2, "live", 5)
                .due(1, "lived", 0).due(5, "many", 12).due(1, "person", 0, 1);
    }

    private static void lateMinutes() {
        Check c = new Check().land("place a;blind x at a;", 1);
        for (int i = 0; i < 99; i++) {
            c.due(0, "passes", 999);
        }
        c.due(99381, "many", 5).days("wait 600;wait 19;wait 18;wait 1;", 4).due(4, "live", 0);
        lived(c, 2, 618, 0, 0, 0).due(99999, "many", 5);
    }

    private static void mean() {
        Check c = Check.ring().refused(8, "mean", 0, 1).refused(5, "mean", 0, 0)
                .refused(5, "mean", 0, 21).refused(5, "mean", -1, 1).refused(5, "mean", 10000, 1)
                .refused(5, "mean", 9999, 2).refused(5, "mean", 9981, 20)
                .refused(5, "mean", Integer.MAX_VALUE, 20)
                .days("go ann hill;wait 40;", 2).due(1, "mean", 9999, 1).tells(0, "top")
                .tells(1, "bottom").due(1, "mean", 9980, 20);
        c.due(0, "passes", 20).due(1, "mean", 0, 3).tells(30, "top").tells(1, "bottom")
                .due(590, "many", 5).due(0, "many", 12).refused(8, "lived", 0);
        // those lost ahead count, too
        c.due(30, "go", 0, 3).due(0, "passes", 15).due(5, "many", 14).due(1, "mean", 0, 20)
                .tells(45, "top").tells(1, "bottom").due(5, "many", 14);
        // by seed 4 ann stays, by 5, 6, 7 she has 5 minutes ahead of the glare
        Check some = Check.ring().due(0, "passes", 25).days("any;any;wait 30;", 3);
        some.due(1, "mean", 4, 1).tells(0, "top").due(1, "mean", 4, 4).tells(75, "top")
                .tells(4, "bottom").due(595, "many", 5).due(0, "many", 14).due(3, "live", 5);
        lived(some, 0, 30, 1, 25, 0).due(1, "person", 2, 0);
    }
}
