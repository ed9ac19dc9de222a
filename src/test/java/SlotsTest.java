/** Promises 29 to 31: slots and counts. */
public final class SlotsTest {
    private static final Check check = new Check("SlotsTest");

    public static void main(String[] args) {
        keep();
        again();
        keptIsNotTouched();
        count();
        check.end();
    }

    private static void keep() {
        LeanLane lane = Check.made("AH009m");
        for (int slot : new int[] {-1, 2, 32, Integer.MIN_VALUE, Integer.MAX_VALUE}) {
            check.due("keep(" + slot + ")", lane.keep(slot), LeanLane.UNKNOWN);
            check.due("again(" + slot + ")", lane.again(slot), LeanLane.UNKNOWN);
        }
        check.due("again(0), nothing kept", lane.again(0), LeanLane.STATE);
        check.due("keep(0)", lane.keep(0), 0);
        lane.hour();
        lane.hour();
        check.due("keep(1)", lane.keep(1), 2);
        check.due("keep() empties no row", lane.count(7), 2);
        check.due("undo()", lane.undo(), 1);
        check.due("again(1)", lane.again(1), 2);
        check.due("again(0)", lane.again(0), 0);
        check.due("again(1) once more", lane.again(1), 2);
    }

    private static void again() {
        LeanLane lane = Check.made("AH475rH292lH099m");
        lane.build(0);
        lane.hour();
        lane.bring(2, 9);
        lane.deed(0, 2);
        lane.see(1, 1, 1);
        lane.seed(9);
        check.due("keep(0)", lane.keep(0), 1);
        String[] kept = facts(lane);
        lane.hour();
        lane.take(2, 5);
        lane.build(1);
        lane.deed(2, 0);
        lane.see(1, 1, 0);
        lane.write('x');
        lane.seed(10);
        check.due("again(0)", lane.again(0), 1);
        String[] now = facts(lane);
        for (int i = 0; i < kept.length; i++) {
            check.isTrue("house " + i + " is as it was kept: " + kept[i] + "/ " + now[i], kept[i].equals(now[i]));
        }
        check.due("the row is empty", lane.count(7), 0);
        check.due("undo()", lane.undo(), LeanLane.STATE);
        check.due("THE HOUR", lane.count(3), 1);
        check.due("seen stays", lane.count(8), 2);
        check.due("the text stays", lane.count(0), 17);
        check.due("the seed stays", lane.seed(0), 10);
        check.due("again(1)", lane.again(1), LeanLane.STATE);
    }

    private static String[] facts(LeanLane lane) {
        String[] facts = new String[lane.count(1)];
        for (int house = 0; house < facts.length; house++) {
            StringBuilder all = new StringBuilder();
            for (int what = 0; what < 8; what++) {
                all.append(lane.house(house, what)).append(' ');
            }
            facts[house] = all.toString();
        }
        return facts;
    }

    private static void keptIsNotTouched() {
        LeanLane lane = Check.made("AH059m");
        lane.keep(0);
        lane.bring(0, 4);
        lane.keep(1);
        lane.again(0);
        check.due("stones of slot 0", lane.house(0, 1), 5);
        lane.bring(0, 1);
        lane.again(0);
        check.due("stones of slot 0 again", lane.house(0, 1), 5);
        check.due("refused, the row stays", rowBehindRefusedAgain(), 1);
        lane.again(1);
        check.due("stones of slot 1", lane.house(0, 1), 9);
        check.due("load of slot 1", lane.house(0, 5), 5);
        lane.hour();
        check.due("keep(0) over what was kept", lane.keep(0), 1);
        lane.again(1);
        check.due("THE HOUR of slot 1", lane.count(3), 0);
        check.due("again(0)", lane.again(0), 1);
        check.due("load of slot 0", lane.house(0, 5), 9);
    }

    private static int rowBehindRefusedAgain() {
        LeanLane lane = Check.made("AH059m");
        lane.hour();
        lane.again(1);
        return lane.count(7);
    }

    private static void count() {
        LeanLane lane = Check.made("AH077mH174mH276mH375lH499m");
        // leased gives 3, hollow 4, holy 0; upside down leans on the holy one.
        int[] want = {26, 5, 15, 0, 37, 4 + 3 + 7 + 3, 3 + 4, 0, 0};
        counts("at first", lane, want);
        lane.bring(4, 2);
        lane.hour();
        lane.see(1, 1, 1);
        // The upside down one gave 4 to the holy one.
        counts("an hour later", lane, 26, 5, 15, 1, 39, 4 + 3 + 11 + 3, 7, 2, 1);
        lane.deed(0, 0);
        lane.hour();
        counts("one fell", lane, 26, 5, 14, 2, 39, 3 + 11 + 3, 4, 4, 1);
        lane.deed(0, 2);
        check.due("what lies gives the monk nothing", lane.count(6), 4);
        lane.build(4);
        check.due("built on the monk", lane.count(6), 4 + 5);
        for (int what : new int[] {-1, 9, Integer.MIN_VALUE, Integer.MAX_VALUE}) {
            check.due("count(" + what + ")", lane.count(what), LeanLane.OUTSIDE);
        }
    }

    private static void counts(String when, LeanLane lane, int... want) {
        for (int what = 0; what < want.length; what++) {
            check.due("count(" + what + "), " + when, lane.count(what), want[what]);
        }
    }
}
