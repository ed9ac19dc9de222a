/** Promises 13 to 20: hours to come, orders, a piano, sacks, told doings. */
public final class HoursTest {
    private static final Check check = new Check("HoursTest");
    private static final int NONE = LeanLane.NONE;
    private static final int OUTSIDE = LeanLane.OUTSIDE;

    public static void main(String[] args) {
        later();
        standing();
        falls();
        rings();
        orders();
        ordersRefused();
        piano();
        sacks();
        judge();
        judgeGoesOn();
        judgeRefused();
        nothingIsChanged();
        check.end();
    }

    private static void later() {
        LeanLane lane = Check.made("AH089rH199rH359m");
        int[][] loads = {{8, 9, 5}, {8, 13, 11}, {8, 13, 15}, {8, 13, 15}};
        int[][] grounds = {{4, 3, 2}, {4, 3, 5}, {4, 3, 7}, {4, 3, 7}};
        for (int house = 0; house < 3; house++) {
            for (int n = 0; n < 4; n++) {
                check.due("later(" + house + ", " + n + ", 0)", lane.later(house, n, 0), loads[n][house]);
                check.due("later(" + house + ", " + n + ", 1)", lane.later(house, n, 1), grounds[n][house]);
            }
        }
        check.due("a ring grows by 6 in each hour", Check.made("AH199rH199l").later(0, 30, 0), 189);
        check.due("a fallen one has none", Check.made("AH292m").later(0, 1, 0), 0);
        check.due("a fallen one has none", Check.made("AH292m").later(0, 1, 1), 0);
        for (int house : new int[] {-1, 3, Integer.MAX_VALUE, Integer.MIN_VALUE}) {
            check.due("later(" + house + ", 0, 0)", lane.later(house, 0, 0), LeanLane.UNKNOWN);
            check.due("UNKNOWN ahead of OUTSIDE", lane.later(house, 31, 2), LeanLane.UNKNOWN);
        }
        for (int n : new int[] {-1, 31, Integer.MAX_VALUE, Integer.MIN_VALUE}) {
            check.due("later(0, " + n + ", 0)", lane.later(0, n, 0), OUTSIDE);
        }
        check.due("later(0, 0, 2)", lane.later(0, 0, 2), OUTSIDE);
        check.due("later(0, 0, -1)", lane.later(0, 0, -1), OUTSIDE);
    }

    private static void standing() {
        LeanLane lane = Check.made("AH009rH009rH290m");
        int[] bits = {7, 3, 1, 0, 0};
        for (int n = 0; n < 5; n++) {
            check.due("standing(" + n + ")", lane.standing(n), bits[n]);
        }
        check.due("standing(30)", lane.standing(30), 0);
        check.due("standing(31)", lane.standing(31), OUTSIDE);
        check.due("standing(-1)", lane.standing(-1), OUTSIDE);
        check.due("standing(MAX)", lane.standing(Integer.MAX_VALUE), OUTSIDE);
        check.due("an unbuilt one never stands", Check.made("AH009mH409mH009m").standing(30), 5);
    }

    private static void falls() {
        LeanLane lane = Check.made("AH009rH009rH290mH409mH009m");
        check.due("falls(2)", lane.falls(2), 1);
        check.due("falls(1)", lane.falls(1), 2);
        check.due("falls(0)", lane.falls(0), 3);
        check.due("falls(3), unbuilt", lane.falls(3), LeanLane.STATE);
        check.due("falls(4)", lane.falls(4), NONE);
        check.due("falls(5)", lane.falls(5), LeanLane.UNKNOWN);
        check.due("falls(-1)", lane.falls(-1), LeanLane.UNKNOWN);
        lane.hour();
        check.due("falls(2), fallen", lane.falls(2), LeanLane.STATE);
        check.due("falls(1), an hour later", lane.falls(1), 1);
        // 9 and half of what the other passes back: 10, 14, 15, 17, 17, 18, 18, 19, of which 10 are too heavy.
        LeanLane slow = Check.made("AH142rH093l");
        check.due("falls(1), slow", slow.falls(1), 8);
        check.due("falls(0), slow", slow.falls(0), 9);
    }

    private static void rings() {
        check.due("rings() of none", new LeanLane().rings(), 0);
        check.due("two rings", Check.made("AH009rH009lH009rH009lH009m").rings(), 15);
        check.due("three rings", Check.made("AH009rH009lH009rH009lH009rH009l").rings(), 63);
        check.due("one in the middle", Check.made("AH009rH009rH009lH009l").rings(), 6);
        check.due("back to back", Check.made("AH009lH009r").rings(), 0);
        check.due("on the monk", Check.made("AH009mH009l").rings(), 0);
        check.due("at the ends", Check.made("AH009lH009rH009lH009r").rings(), 6);
        check.due("deeds bind houses that do not stand too", Check.made("AH409rH009l").rings(), 3);
    }

    private static void ordersOf(String text, int n, long row, int many, int first) {
        LeanLane lane = Check.made(text);
        check.due("orders(" + n + ", " + row + ", 0) of " + text, lane.orders(n, row, 0), many);
        check.due("orders(" + n + ", " + row + ", 1) of " + text, lane.orders(n, row, 1), first);
    }

    private static void orders() {
        ordersOf("AH061m", 1, 1, 0, NONE);
        ordersOf("AH061m", 1, 11, 1, 1);
        // One more is too much until one is taken.
        ordersOf("AH061mH009m", 2, 1011, 1, 21);
        ordersOf("AH061mH009m", 2, 11001, 1, 12);
        ordersOf("AH061mH009m", 3, 1011109, 3, 213);
        // Three can not be taken where two are.
        ordersOf("AH029m", 2, 13002, 1, 21);
        ordersOf("AH029m", 2, 13012, 0, NONE);
        // Moves that are alike are moves of their own.
        ordersOf("AH009mH009m", 4, 1001101101L, 24, 1234);
        ordersOf("AH009mH009m", 3, 1001101L, 6, 123);
        // The hour behind the last move counts too, and so does what falls without any move.
        ordersOf("AH009mH071m", 1, 111, 1, 1);
        ordersOf("AH009mH071m", 1, 9, 0, NONE);
        ordersOf("AH019mH009r", 1, 11, 0, NONE);
        LeanLane full = Check.made("AH199m");
        for (int i = 0; i < 10; i++) {
            full.bring(0, 9);
        }
        check.due("99 and one more", full.orders(1, 1, 0), 0);
        check.due("one taken, then brought", full.orders(2, 1011, 1), 21);
        check.due("one taken, then brought", full.orders(2, 1011, 0), 1);
    }

    private static void ordersRefused() {
        LeanLane lane = Check.made("AH059mH059m");
        check.due("as told", lane.orders(1, 11, 0), 1);
        check.due("n 0", lane.orders(0, 0, 0), OUTSIDE);
        check.due("n 5", lane.orders(5, 11011011011011L, 0), OUTSIDE);
        check.due("n MIN", lane.orders(Integer.MIN_VALUE, 11, 0), OUTSIDE);
        check.due("n MAX", lane.orders(Integer.MAX_VALUE, 11, 0), OUTSIDE);
        check.due("row below 0", lane.orders(1, -11, 0), OUTSIDE);
        check.due("row MIN", lane.orders(1, Long.MIN_VALUE, 0), OUTSIDE);
        check.due("row MAX", lane.orders(4, Long.MAX_VALUE, 0), OUTSIDE);
        check.due("four figures", lane.orders(1, 1011, 0), OUTSIDE);
        check.due("thirteen figures", lane.orders(4, 1011011011011L, 0), OUTSIDE);
        check.due("twelve figures", lane.orders(4, 111111111111L, 0), 24);
        check.due("no such house", lane.orders(1, 211, 0), OUTSIDE);
        check.due("no such house, last", lane.orders(2, 11211, 0), OUTSIDE);
        check.due("neither brought nor taken", lane.orders(1, 21, 0), OUTSIDE);
        check.due("no stones", lane.orders(1, 10, 0), OUTSIDE);
        check.due("nothing told of the first", lane.orders(2, 11, 0), OUTSIDE);
        check.due("what 2", lane.orders(1, 11, 2), OUTSIDE);
        check.due("what -1", lane.orders(1, 11, -1), OUTSIDE);
    }

    private static void piano() {
        LeanLane lane = Check.made("AH061mH019mH409m");
        check.due("piano(1)", lane.piano(1), 2);
        check.due("piano(9)", lane.piano(9), 2);
        check.due("piano(0)", lane.piano(0), OUTSIDE);
        check.due("piano(10)", lane.piano(10), OUTSIDE);
        check.due("piano(-1)", lane.piano(-1), OUTSIDE);
        check.due("one falls in any case", Check.made("AH009mH009r").piano(1), 0);
        check.due("of none", new LeanLane().piano(9), 0);
        LeanLane full = Check.made("AH179mH009m");
        for (int i = 0; i < 10; i++) {
            full.bring(0, 9);
        }
        check.due("97 and 2", full.piano(2), 3);
        check.due("97 and 3", full.piano(3), 2);
        // Nothing falls in six hours, though something does in the seventh; and in the sixth.
        check.due("a piano for the seventh hour", brought("AH375rH192l", 0, 4).standing(6), 3);
        check.isTrue("and then", brought("AH375rH192l", 0, 4).standing(7) != 3);
        check.due("it may stand", Check.made("AH375rH192l").piano(4), 3);
        check.due("a piano for the sixth hour", brought("AH333rH121l", 1, 9).standing(5), 3);
        check.isTrue("and then", brought("AH333rH121l", 1, 9).standing(6) != 3);
        check.due("it may not", Check.made("AH333rH121l").piano(9), 0);
    }

    private static LeanLane brought(String text, int house, int v) {
        LeanLane lane = Check.made(text);
        lane.bring(house, v);
        return lane;
    }

    private static void sacksOf(String text, int many, int from) {
        LeanLane lane = Check.made(text);
        check.due("sacks(0) of " + text, lane.sacks(0), many);
        check.due("sacks(1) of " + text, lane.sacks(1), from);
    }

    private static void sacks() {
        sacksOf("A", 0, 0);
        sacksOf("AH009m", 0, 0);
        sacksOf("AH071m", 1, 0);
        sacksOf("AH009mH071m", 1, 11);
        // Upside down with 2 on no strength: one off; holy with 8 on 6: two off.
        sacksOf("AH320mH282r", 3, 1);
        sacksOf("AH009mH320mH282r", 3, 12);
        // From 1 or from 2 as well: the lesser one.
        sacksOf("AH159rH169rH284r", 1, 11);
        // Three that are too heavy are too many; so is one without hold.
        sacksOf("AH071mH071mH071m", NONE, NONE);
        sacksOf("AH009r", NONE, NONE);
        sacksOf("AH190m", 9, 0);
        // From both as well as from 1 alone, which has the greater number.
        sacksOf("AH111rH071l", 2, 1);
        // What falls in the seventh hour is not asked about, what falls in the sixth is.
        sacksOf("AH182rH022l", 0, 0);
        check.due("falls in the seventh", Check.made("AH182rH022l").falls(1), 7);
        sacksOf("AH372rH132l", 1, 0);
        check.due("stands in the fifth", Check.made("AH372rH132l").standing(5), 3);
        LeanLane lane = brought("AH293m", 0, 9);
        check.due("18 on 9", lane.sacks(0), 9);
        lane.bring(0, 1);
        check.due("19 on 9", lane.sacks(0), NONE);
        check.due("sacks(2)", lane.sacks(2), OUTSIDE);
        check.due("sacks(-1)", lane.sacks(-1), OUTSIDE);
        LeanLane two = brought("AH293mH293m", 0, 9);
        two.bring(1, 9);
        check.due("18 and 18 on 9", two.sacks(0), 18);
        check.due("18 and 18 on 9", two.sacks(1), 1);
    }

    private static void judge() {
        String text = "AH049rH169rH352rH289lH435m";
        judged(text, 1, 0, NONE);
        judged(text, 1, 1, 0);
        judged(text, 1, 10, 0);
        judged(text, 1, 100, 0);
        judged(text, 1, 1001, NONE);
        judged(text, 1, 1049, NONE);
        judged(text, 1, 1051, 0);
        judged(text, 1, 1000, 0);
        judged(text, 1, 1101, 0);
        judged(text, 1, 2004, NONE);
        judged(text, 1, 2005, 0);
        judged(text, 1, 2000, 0);
        judged(text, 1, 2051, 0);
        judged(text, 1, 2104, 0);
        judged(text, 1, 3000, NONE);
        judged(text, 1, 3001, 0);
        judged(text, 1, 3002, NONE);
        judged(text, 1, 3003, 0);
        judged(text, 1, 3050, 0);
        judged(text, 1, 3100, 0);
        judged(text, 1, 4004, NONE);
        judged(text, 1, 4003, 0);
        judged(text, 1, 4005, 0);
        judged(text, 1, 4014, 0);
        judged(text, 1, 4104, 0);
        judged(text, 1, 5003, NONE);
        judged(text, 1, 5004, 0);
        judged(text, 1, 5005, 0);
        judged(text, 1, 5013, 0);
        judged(text, 1, 5103, 0);
        judged(text, 1, 6004, NONE);
        judged(text, 1, 6003, NONE);
        judged(text, 1, 6005, 0);
        judged(text, 1, 6014, 0);
        judged(text, 1, 6400, NONE);
        judged(text, 1, 6401, 0);
        judged(text, 1, 6500, 0);
        judged(text, 1, 7000, 0);
        judged(text, 1, 9999, 0);
    }

    private static void judged(String text, int n, long row, int want) {
        check.due("judge(" + n + ", " + row + ") of " + text, Check.made(text).judge(n, row), want);
    }

    private static void judgeGoesOn() {
        // From the first hour on house 1 has 6, and 2 that house 0 gives.
        judged("AH049rH169rH352rH289lH435m", 4, 6108L, NONE);
        judged("AH049rH169rH352rH289lH435m", 2, 6108L, NONE);
        judged("AH049rH169rH352rH289lH435m", 2, 6109L, 1);
        judged("AH089rH199rH359m", 2, 6113L, NONE);
        judged("AH089rH199rH359m", 2, 6114L, 1);
        judged("AH049rH169rH352rH289lH435m", 4, 4004500430003001L, NONE);
        judged("AH049rH169rH352rH289lH435m", 4, 4004500430003000L, 3);
        judged("AH049rH169rH352rH289lH435m", 2, 40044004L, 1);
        judged("AH009mH071m", 2, 5001, 1);
        judged("AH009mH071m", 3, 201100005001L, NONE);
        judged("AH009mH071m", 3, 5001L * 100000000L, NONE);
        judged("AH009mH071m", 4, 5001000000005001L, 3);
        judged("AH009mH071m", 4, 40014001L, 3);
        judged("AH009mH071m", 4, 20172011L * 100000000L, 1);
        judged("AH009mH071m", 4, 1009200910092009L, NONE);
        judged("AH009mH071m", 4, 1009200920010000L, 2);
        LeanLane full = Check.made("AH199m");
        for (int i = 0; i < 10; i++) {
            full.bring(0, 9);
        }
        check.due("99 and one more", full.judge(1, 1001), 0);
        check.due("a load of 99", full.judge(2, 6099), NONE);
    }

    private static void judgeRefused() {
        LeanLane lane = Check.made("AH009m");
        check.due("n 0", lane.judge(0, 0), OUTSIDE);
        check.due("n 5", lane.judge(5, 0), OUTSIDE);
        check.due("n MAX", lane.judge(Integer.MAX_VALUE, 0), OUTSIDE);
        check.due("n MIN", lane.judge(Integer.MIN_VALUE, 0), OUTSIDE);
        check.due("row -1", lane.judge(1, -1), OUTSIDE);
        check.due("five figures", lane.judge(1, 10000), OUTSIDE);
        check.due("four figures", lane.judge(1, 9999), 0);
        check.due("16 figures", lane.judge(4, 9999999999999999L), 0);
        check.due("17 figures", lane.judge(4, 10000000000000000L), OUTSIDE);
        check.due("row MAX", lane.judge(4, Long.MAX_VALUE), OUTSIDE);
        check.due("row MIN", lane.judge(4, Long.MIN_VALUE), OUTSIDE);
    }

    private static void nothingIsChanged() {
        LeanLane lane = Check.made("AH049rH169rH352rH289lH435m");
        lane.bring(2, 4);
        lane.hour();
        String before = Check.picture(lane);
        lane.later(2, 30, 0);
        lane.standing(30);
        lane.falls(2);
        lane.rings();
        lane.orders(2, 211211, 0);
        lane.piano(9);
        lane.sacks(0);
        lane.judge(4, 4004101900003000L);
        check.same("a question", before, lane);
        check.due("undo() behind questions", lane.undo(), 1);
    }
}
