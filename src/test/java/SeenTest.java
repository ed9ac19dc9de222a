/** Promises 21 to 23: what is seen, and who brought what by night. */
public final class SeenTest {
    private static final Check check = new Check("SeenTest");
    private static final int OUTSIDE = LeanLane.OUTSIDE;

    public static void main(String[] args) {
        see();
        unsee();
        night();
        nightOfTheLaneAsItIs();
        nightHours();
        nightRefused();
        check.end();
    }

    private static void see() {
        LeanLane lane = new LeanLane();
        int[][] wrong = {
            {0, 0, 0}, {10, 0, 0}, {-1, 0, 0}, {1, -1, 0}, {1, 6, 0}, {1, 0, -1}, {1, 0, 2},
            {Integer.MIN_VALUE, 0, 0}, {Integer.MAX_VALUE, 0, 0}, {1, Integer.MIN_VALUE, 0}, {1, Integer.MAX_VALUE, 1},
        };
        for (int[] w : wrong) {
            check.due("see(" + w[0] + ", " + w[1] + ", " + w[2] + ")", lane.see(w[0], w[1], w[2]), OUTSIDE);
        }
        check.due("count(8), refused", lane.count(8), 0);
        check.due("see(1, 0, 0)", lane.see(1, 0, 0), 1);
        check.due("see(9, 5, 1)", lane.see(9, 5, 1), 2);
        check.due("see(9, 5, 0), though that was seen otherwise", lane.see(9, 5, 0), 3);
        check.due("see(1, 0, 0) again", lane.see(1, 0, 0), 4);
        check.due("see(2, 1, 1)", lane.see(2, 1, 1), 5);
        check.due("see(2, 2, 1)", lane.see(2, 2, 1), 6);
        check.due("see(2, 3, 1)", lane.see(2, 3, 1), LeanLane.FULL);
        check.due("OUTSIDE ahead of FULL", lane.see(0, 3, 1), OUTSIDE);
        check.due("count(8)", lane.count(8), 6);
    }

    private static void unsee() {
        LeanLane lane = new LeanLane();
        check.due("unsee() of none", lane.unsee(), 0);
        lane.see(1, 0, 0);
        lane.see(1, 0, 1);
        check.due("unsee()", lane.unsee(), 2);
        check.due("count(8)", lane.count(8), 0);
        check.due("unsee() again", lane.unsee(), 0);
        check.due("see() behind it", lane.see(1, 0, 0), 1);
    }

    private static void nights(String when, LeanLane lane, int many, int first) {
        check.due("night(0), " + when, lane.night(0), many);
        check.due("night(1), " + when, lane.night(1), first);
    }

    private static void night() {
        LeanLane lane = Check.made("AH061mH009m");
        nights("nothing seen", lane, 18, 1);
        lane.see(1, 0, 0);
        nights("0 fell", lane, 9, 1);
        lane.see(1, 1, 1);
        nights("1 stood", lane, 9, 1);
        lane.see(5, 5, 0);
        nights("there is no house 5", lane, 9, 1);
        lane.see(2, 0, 1);
        nights("0 stood again", lane, 0, LeanLane.NONE);
        lane.unsee();
        lane.see(9, 0, 1);
        nights("0 stood", lane, 9, 11);
        lane.see(9, 5, 1);
        nights("a house stood that is not there", lane, 0, LeanLane.NONE);
        LeanLane some = Check.made("AH031mH031m");
        some.see(3, 0, 1);
        some.see(3, 1, 0);
        nights("4 or more were brought into 1", some, 6, 14);
        LeanLane unbuilt = Check.made("AH061mH409m");
        unbuilt.see(1, 0, 1);
        nights("into the unbuilt one", unbuilt, 9, 11);
        nights("of no houses", new LeanLane(), 0, LeanLane.NONE);
    }

    private static void nightOfTheLaneAsItIs() {
        LeanLane lane = Check.made("AH061m");
        lane.see(1, 0, 1);
        nights("6 stones", lane, 0, LeanLane.NONE);
        lane.take(0, 4);
        nights("2 stones", lane, 4, 1);
        lane.take(0, 2);
        nights("no stones", lane, 6, 1);
        lane.undo();
        nights("2 stones again", lane, 4, 1);
        LeanLane full = Check.made("AH149m");
        for (int i = 0; i < 10; i++) {
            full.bring(0, 9);
        }
        nights("94 stones", full, 5, 1);
        full.bring(0, 5);
        nights("99 stones", full, 0, LeanLane.NONE);
    }

    private static void nightHours() {
        // 2 falls in the first hour by any stone, 1 in the second, 0 in the third.
        LeanLane lane = Check.made("AH009rH009rH293mH009m");
        lane.see(1, 2, 0);
        lane.see(1, 1, 1);
        lane.see(2, 1, 0);
        lane.see(2, 0, 1);
        lane.see(3, 0, 0);
        lane.see(9, 3, 1);
        nights("one after the other", lane, 9, 21);
        lane.hour();
        nights("an hour later", lane, 9, 21);
        lane.unsee();
        lane.see(9, 0, 1);
        // Up to 3 into 0 or 1 into 1, of which nothing comes to 2, or any into 3.
        nights("not into 2", lane, 3 + 1 + 9, 1);
        String before = Check.picture(lane);
        lane.night(0);
        check.same("night()", before, lane);
    }

    private static void nightRefused() {
        LeanLane lane = Check.made("AH061m");
        check.due("night(2)", lane.night(2), OUTSIDE);
        check.due("night(-1)", lane.night(-1), OUTSIDE);
        check.due("night(MAX)", lane.night(Integer.MAX_VALUE), OUTSIDE);
    }
}
