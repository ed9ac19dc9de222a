/** Promises 1 to 6: a new object, the text and its fault, the lane and its houses. */
public final class LaneTest {
    private static final Check check = new Check("LaneTest");

    public static void main(String[] args) {
        newObject();
        write();
        wipe();
        fault();
        lane();
        laneForgetsAndKeeps();
        house();
        check.end();
    }

    private static void newObject() {
        LeanLane lane = new LeanLane();
        for (int what = 0; what <= 8; what++) {
            check.due("new count(" + what + ")", lane.count(what), 0);
        }
        check.due("new house(0, 0)", lane.house(0, 0), LeanLane.UNKNOWN);
        check.due("new fault()", lane.fault(), 0);
        check.due("new undo()", lane.undo(), LeanLane.STATE);
        check.due("new again(0)", lane.again(0), LeanLane.STATE);
        check.due("new again(1)", lane.again(1), LeanLane.STATE);
        check.due("new seed(7)", lane.seed(7), 0);
        check.due("new unsee()", lane.unsee(), 0);
        check.due("new standing(30)", lane.standing(30), 0);
    }

    private static void write() {
        LeanLane lane = new LeanLane();
        check.due("write(-1)", lane.write(-1), LeanLane.OUTSIDE);
        check.due("write(256)", lane.write(256), LeanLane.OUTSIDE);
        check.due("write(MIN)", lane.write(Integer.MIN_VALUE), LeanLane.OUTSIDE);
        check.due("write(A + 65536)", lane.write('A' + 65536), LeanLane.OUTSIDE);
        check.due("count(0) behind refusals", lane.count(0), 0);
        check.due("write(255)", lane.write(255), 1);
        check.due("write(0)", lane.write(0), 2);
        for (int length = 3; length <= 64; length++) {
            check.due("write('A')", lane.write('A'), length);
        }
        check.due("write, the 65th", lane.write('A'), LeanLane.FULL);
        check.due("write(256), the 65th", lane.write(256), LeanLane.OUTSIDE);
        check.due("count(0), full", lane.count(0), 64);
        check.due("wipe(), full", lane.wipe(), 64);
        check.due("write, wiped", lane.write('A'), 1);
    }

    private static void wipe() {
        LeanLane lane = Check.made("AH123m");
        check.due("wipe()", lane.wipe(), 6);
        check.due("wipe() again", lane.wipe(), 0);
        check.due("count(0), wiped", lane.count(0), 0);
        check.due("houses stay, wiped", lane.count(1), 1);
        check.due("fault(), wiped", lane.fault(), 0);
    }

    private static void faultOf(String text, int want) {
        LeanLane lane = Check.told(text);
        check.due("fault() of " + text, lane.fault(), want);
        check.due("lane() of " + text, lane.lane(), want == LeanLane.NONE ? text.length() / 5 : LeanLane.STATE);
    }

    private static void fault() {
        faultOf("", 0);
        faultOf("A", LeanLane.NONE);
        faultOf("a", 0);
        faultOf("H", 0);
        faultOf("H000l", 0);
        faultOf("AA", 1);
        faultOf("Ah000l", 1);
        faultOf("AH", 2);
        faultOf("AH5", 2);
        faultOf("AH/", 2);
        faultOf("AHH", 2);
        faultOf("AH4", 3);
        faultOf("AH4:", 3);
        faultOf("AH4/", 3);
        faultOf("AH49", 4);
        faultOf("AH49x", 4);
        faultOf("AH490", 5);
        faultOf("AH490n", 5);
        faultOf("AH490R", 5);
        faultOf("AH490l", LeanLane.NONE);
        faultOf("AH490r", LeanLane.NONE);
        faultOf("AH490m", LeanLane.NONE);
        faultOf("AH009m0", 6);
        faultOf("AH009mA", 6);
        faultOf("AH009mH", 7);
        faultOf("AH009mH1", 8);
        faultOf("AH009mx109m", 6);
        faultOf("AH009mH909q", 7);
        String six = "AH000lH101rH212mH323lH434rH099m";
        faultOf(six, LeanLane.NONE);
        faultOf(six + "H", 31);
        faultOf(six + "x", 31);
        faultOf(six + "H000m", 31);
        faultOf(six + six + "A", 31);
        faultOf("AH000l" + (char) 200, 6);
        faultOf("AH" + (char) ('0' + 128), 2);
    }

    private static void lane() {
        LeanLane lane = Check.told("AH049rH169rH352rH289lH435m");
        check.due("lane()", lane.lane(), 5);
        check.due("count(0), the text stays", lane.count(0), 26);
        check.due("count(1)", lane.count(1), 5);
        check.due("count(2), the unbuilt one does not stand", lane.count(2), 15);
        int[] stones = {4, 6, 5, 8, 3};
        for (int house = 0; house < 5; house++) {
            check.due("stones of " + house, lane.house(house, 1), stones[house]);
            check.due("load of " + house, lane.house(house, 5), house == 4 ? 0 : stones[house]);
        }
        String before = Check.picture(lane);
        lane.write('?');
        check.due("lane(), a fault", lane.lane(), LeanLane.STATE);
        lane.wipe();
        check.due("lane(), an empty text", lane.lane(), LeanLane.STATE);
        Check.tell(lane, "AH049rH169rH352rH289lH435m");
        check.same("lane(), refused,", before, lane);
        Check.tell(lane, "A");
        check.due("lane(), none", lane.lane(), 0);
        check.due("count(1), none", lane.count(1), 0);
        check.due("count(2), none", lane.count(2), 0);
        check.due("house(0, 0), none", lane.house(0, 0), LeanLane.UNKNOWN);
    }

    private static void laneForgetsAndKeeps() {
        LeanLane lane = Check.made("AH052mH052r");
        lane.hour();
        lane.bring(0, 3);
        lane.keep(0);
        lane.keep(1);
        lane.see(3, 1, 0);
        lane.seed(77);
        check.due("count(3)", lane.count(3), 1);
        check.due("count(2), fallen", lane.count(2), 1);
        check.due("lane() anew", lane.lane(), 2);
        check.due("count(2), all stand", lane.count(2), 3);
        check.due("stones anew", lane.house(0, 1), 5);
        check.due("load anew", lane.house(1, 5), 5);
        check.due("THE HOUR anew", lane.count(3), 0);
        check.due("acts anew", lane.count(7), 0);
        check.due("undo() anew", lane.undo(), LeanLane.STATE);
        check.due("again(0) anew", lane.again(0), LeanLane.STATE);
        check.due("again(1) anew", lane.again(1), LeanLane.STATE);
        check.due("seen stays", lane.count(8), 1);
        check.due("the seed stays", lane.seed(0), 77);
        check.due("keep(1) anew", lane.keep(1), 0);
        Check.tell(lane, "Ax");
        check.due("lane() refused", lane.lane(), LeanLane.STATE);
        check.due("again(1), still kept", lane.again(1), 0);
    }

    private static void house() {
        LeanLane lane = Check.made("AH077rH174lH276mH375lH499r");
        // kind, stones, strength, deed, stands, load, gives, ground
        int[][] want = {
            {0, 7, 7, 1, 1, 7, 3, 4},
            {1, 7, 4, 0, 1, 7, 4, 3},
            {2, 7, 6, 2, 1, 7, 0, 7},
            {3, 7, 5, 0, 1, 7, 4, 3},
            {4, 9, 9, 1, 0, 0, 0, 0},
        };
        for (int house = 0; house < 5; house++) {
            for (int what = 0; what < 8; what++) {
                check.due("house(" + house + ", " + what + ")", lane.house(house, what), want[house][what]);
            }
        }
        for (int house : new int[] {-1, 5, 6, 64, Integer.MIN_VALUE, Integer.MAX_VALUE}) {
            check.due("house(" + house + ", 0)", lane.house(house, 0), LeanLane.UNKNOWN);
            check.due("house(" + house + ", 9)", lane.house(house, 9), LeanLane.UNKNOWN);
        }
        for (int what : new int[] {-1, 8, Integer.MIN_VALUE, Integer.MAX_VALUE}) {
            check.due("house(0, " + what + ")", lane.house(0, what), LeanLane.OUTSIDE);
        }
        // What each kind gives of 0 to 9.
        int[][] gives = {
            {0, 0, 1, 1, 2, 2, 3, 3, 4, 4},
            {0, 0, 0, 0, 1, 2, 3, 4, 5, 6},
            {0, 0, 0, 0, 0, 0, 0, 0, 0, 0},
            {0, 1, 1, 2, 2, 3, 3, 4, 4, 5},
        };
        for (int kind = 0; kind < 4; kind++) {
            for (int load = 0; load <= 9; load++) {
                LeanLane one = Check.made("AH" + kind + load + "9m");
                check.due("gives, kind " + kind + " of " + load, one.house(0, 6), gives[kind][load]);
                check.due("ground, kind " + kind + " of " + load, one.house(0, 7), load - gives[kind][load]);
            }
        }
    }
}
