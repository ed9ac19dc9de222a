/** Promises 7 to 12: hours, stones, deeds, houses built, and all undone. */
public final class ActsTest {
    private static final Check check = new Check("ActsTest");

    public static void main(String[] args) {
        loadsGoOn();
        tooHeavy();
        nothingToLeanOn();
        allAtOnce();
        bring();
        take();
        deed();
        build();
        undo();
        rowOfActs();
        refusedChangesNothing();
        check.end();
    }

    private static void loads(String when, LeanLane lane, int... want) {
        for (int house = 0; house < want.length; house++) {
            check.due(when + ", load of " + house, lane.house(house, 5), want[house]);
        }
    }

    private static void loadsGoOn() {
        // Leased 8 leans on hollow 9, that on upside down 5, that on the monk.
        LeanLane lane = Check.made("AH089rH199rH359m");
        check.due("hour()", lane.hour(), 0);
        loads("one hour", lane, 8, 9 + 4, 5 + 6);
        check.due("the monk bears", lane.count(6), 6);
        check.due("hour()", lane.hour(), 0);
        loads("two hours", lane, 8, 13, 5 + 10);
        lane.hour();
        loads("three hours", lane, 8, 13, 15);
        check.due("THE HOUR", lane.count(3), 3);
        check.due("ground of all", lane.count(5), 4 + 3 + 7);
        // Two lean on the one between them; it is holy and passes nothing on.
        LeanLane middle = Check.made("AH089rH219lH099l");
        middle.hour();
        loads("from both sides", middle, 8, 1 + 4 + 4, 9);
        check.due("holy gives nothing", middle.house(1, 6), 0);
        // What is given is of the load ahead of the hour, not of the new one.
        LeanLane ring = Check.made("AH199rH199l");
        ring.hour();
        loads("a ring, one hour", ring, 15, 15);
        ring.hour();
        loads("a ring, two hours", ring, 21, 21);
        LeanLane none = new LeanLane();
        check.due("hour() of no houses", none.hour(), 0);
        check.due("THE HOUR of no houses", none.count(3), 1);
    }

    private static void tooHeavy() {
        // Ground of a leased house with 6: 3; with 7: 4.
        check.due("ground 3, strength 1", Check.made("AH061m").hour(), 0);
        check.due("ground 4, strength 1", Check.made("AH071m").hour(), 1);
        check.due("ground 3, upside down", Check.made("AH371m").hour(), 0);
        check.due("ground 4, upside down", Check.made("AH381m").hour(), 1);
        check.due("hollow bears 3 at most", Check.made("AH191m").hour(), 0);
        check.due("hollow of no strength", Check.made("AH190m").hour(), 1);
        check.due("hollow with nothing", Check.made("AH100m").hour(), 0);
        check.due("holy bears 9", Check.made("AH293m").hour(), 0);
        check.due("holy bears not 9", Check.made("AH292m").hour(), 1);
        LeanLane lane = Check.made("AH292mH059m");
        check.due("stands ahead", lane.count(2), 3);
        check.due("one falls", lane.hour(), 1);
        check.due("stands behind", lane.count(2), 2);
        check.due("its load", lane.house(0, 5), 0);
        check.due("its gives", lane.house(0, 6), 0);
        check.due("its ground", lane.house(0, 7), 0);
        check.due("its stones stay", lane.house(0, 1), 9);
        check.due("it falls once", lane.hour(), 0);
    }

    private static void nothingToLeanOn() {
        check.due("the first leans ahead", Check.made("AH009l").hour(), 1);
        check.due("the last leans on the next", Check.made("AH009r").hour(), 1);
        check.due("hollow", Check.made("AH109r").hour(), 1);
        check.due("upside down", Check.made("AH309r").hour(), 1);
        check.due("holy ones do not fall so", Check.made("AH209lH209r").hour(), 0);
        check.due("the monk always stands", Check.made("AH009mH109mH309m").hour(), 0);
        check.due("on an unbuilt one", Check.made("AH009rH409m").hour(), 1);
        check.due("the sixth has no next one", Check.made("AH009mH009mH009mH009mH009mH009r").hour(), 1);
        // One fallen house gives nothing on and takes nothing in.
        LeanLane lane = Check.made("AH059rH099rH059m");
        lane.deed(1, 0);
        lane.deed(0, 0);
        check.due("the first falls", lane.hour(), 1);
        check.due("then what leans on it", lane.hour(), 1);
        check.due("load of what is left", lane.house(2, 5), 5);
        check.due("standing", lane.count(2), 4);
    }

    private static void allAtOnce() {
        // 2 falls of its weight; 1 leans on it and falls an hour later, 0 two hours later.
        LeanLane lane = Check.made("AH009rH009rH290m");
        check.due("first hour", lane.hour(), 1);
        check.due("standing", lane.count(2), 3);
        check.due("second hour", lane.hour(), 1);
        check.due("standing", lane.count(2), 1);
        check.due("third hour", lane.hour(), 1);
        check.due("standing", lane.count(2), 0);
        check.due("fourth hour", lane.hour(), 0);
        check.due("both of a heavy ring", Check.made("AH090rH090l").hour(), 2);
    }

    private static void bring() {
        LeanLane lane = Check.made("AH059mH408m");
        check.due("bring(2, 0)", lane.bring(2, 0), LeanLane.UNKNOWN);
        check.due("bring(-1, 1)", lane.bring(-1, 1), LeanLane.UNKNOWN);
        check.due("bring(0, 0)", lane.bring(0, 0), LeanLane.OUTSIDE);
        check.due("bring(0, 10)", lane.bring(0, 10), LeanLane.OUTSIDE);
        check.due("bring(0, MIN)", lane.bring(0, Integer.MIN_VALUE), LeanLane.OUTSIDE);
        check.due("bring(0, MAX)", lane.bring(0, Integer.MAX_VALUE), LeanLane.OUTSIDE);
        check.due("bring(0, 9)", lane.bring(0, 9), 14);
        check.due("bring(0, 1)", lane.bring(0, 1), 15);
        check.due("the load comes with the hour", lane.house(0, 5), 5);
        lane.hour();
        check.due("the load of the hour", lane.house(0, 5), 15);
        check.due("into an unbuilt one", lane.bring(1, 6), 6);
        check.due("it has no load", lane.house(1, 5), 0);
        for (int stones = 24; stones <= 96; stones += 9) {
            check.due("bring(0, 9)", lane.bring(0, 9), stones);
        }
        check.due("to 100", lane.bring(0, 4), LeanLane.FULL);
        check.due("to 105", lane.bring(0, 9), LeanLane.FULL);
        check.due("OUTSIDE ahead of FULL", lane.bring(0, 10), LeanLane.OUTSIDE);
        check.due("to 99", lane.bring(0, 3), 99);
        check.due("to 100", lane.bring(0, 1), LeanLane.FULL);
        check.due("stones of all", lane.count(4), 105);
    }

    private static void take() {
        LeanLane lane = Check.made("AH059mH438m");
        check.due("take(2, 0)", lane.take(2, 0), LeanLane.UNKNOWN);
        check.due("take(-1, 1)", lane.take(-1, 1), LeanLane.UNKNOWN);
        check.due("take(0, 0)", lane.take(0, 0), LeanLane.OUTSIDE);
        check.due("take(0, 10)", lane.take(0, 10), LeanLane.OUTSIDE);
        check.due("take(0, -1)", lane.take(0, -1), LeanLane.OUTSIDE);
        check.due("take(0, 6)", lane.take(0, 6), LeanLane.STATE);
        check.due("take(0, 5)", lane.take(0, 5), 0);
        check.due("the load stays until the hour", lane.house(0, 5), 5);
        check.due("take(0, 1)", lane.take(0, 1), LeanLane.STATE);
        lane.hour();
        check.due("the load of the hour", lane.house(0, 5), 0);
        check.due("from an unbuilt one", lane.take(1, 3), 0);
        check.due("acts", lane.count(7), 3);
    }

    private static void deed() {
        LeanLane lane = Check.made("AH089mH019mH409l");
        check.due("deed(3, 9)", lane.deed(3, 9), LeanLane.UNKNOWN);
        check.due("deed(-1, 0)", lane.deed(-1, 0), LeanLane.UNKNOWN);
        check.due("deed(0, 3)", lane.deed(0, 3), LeanLane.OUTSIDE);
        check.due("deed(0, -1)", lane.deed(0, -1), LeanLane.OUTSIDE);
        check.due("deed(0, 2)", lane.deed(0, 2), LeanLane.STATE);
        check.due("acts", lane.count(7), 0);
        check.due("deed(0, 1)", lane.deed(0, 1), 2);
        check.due("it leans so", lane.house(0, 3), 1);
        check.due("deed(0, 1) again", lane.deed(0, 1), LeanLane.STATE);
        lane.hour();
        check.due("it gives there", lane.house(1, 5), 5);
        check.due("deed(0, 0)", lane.deed(0, 0), 1);
        check.due("of an unbuilt one", lane.deed(2, 2), 0);
        check.due("nothing is ahead of it", lane.hour(), 1);
    }

    private static void build() {
        LeanLane lane = Check.made("AH475mH292mH099m");
        check.due("build(3)", lane.build(3), LeanLane.UNKNOWN);
        check.due("build(-1)", lane.build(-1), LeanLane.UNKNOWN);
        check.due("build(2)", lane.build(2), LeanLane.STATE);
        check.due("build(0)", lane.build(0), 7);
        check.due("it is leased", lane.house(0, 0), 0);
        check.due("it stands", lane.house(0, 4), 1);
        check.due("its load", lane.house(0, 5), 7);
        check.due("its strength", lane.house(0, 2), 5);
        check.due("build(0) again", lane.build(0), LeanLane.STATE);
        check.due("holy one falls", lane.hour(), 1);
        check.due("take(1, 4)", lane.take(1, 4), 5);
        check.due("build(1)", lane.build(1), 5);
        check.due("a fallen one stays holy", lane.house(1, 0), 2);
        check.due("its load is its stones", lane.house(1, 5), 5);
        check.due("all stand", lane.count(2), 7);
        check.due("a fallen one that was unbuilt stays leased", fallenUnbuilt(), 0);
    }

    private static int fallenUnbuilt() {
        LeanLane lane = Check.made("AH470m");
        lane.build(0);
        lane.hour();
        lane.build(0);
        return lane.house(0, 0);
    }

    private static void undo() {
        LeanLane lane = Check.made("AH475rH292lH099m");
        String[] pictures = new String[6];
        pictures[0] = Check.picture(lane);
        lane.build(0);
        pictures[1] = Check.picture(lane);
        lane.hour();
        pictures[2] = Check.picture(lane);
        lane.bring(2, 9);
        pictures[3] = Check.picture(lane);
        lane.deed(0, 0);
        pictures[4] = Check.picture(lane);
        lane.take(1, 8);
        pictures[5] = Check.picture(lane);
        lane.hour();
        for (int left = 5; left >= 0; left--) {
            check.due("undo()", lane.undo(), left);
            check.same("undo() to " + left, pictures[left], lane);
        }
        check.due("undo() of none", lane.undo(), LeanLane.STATE);
        check.due("unbuilt again", lane.house(0, 0), 4);
        check.due("THE HOUR again", lane.count(3), 0);
        lane.write('x');
        lane.see(1, 1, 1);
        lane.seed(5);
        lane.years(1);
        check.due("no acts: text, seen, seed", lane.undo(), LeanLane.STATE);
    }

    private static void rowOfActs() {
        LeanLane lane = Check.made("AH009m");
        for (int act = 1; act <= 20; act++) {
            check.due("bring(0, 1)", lane.bring(0, 1), act);
            check.due("count(7)", lane.count(7), Math.min(14, act));
        }
        for (int left = 13; left >= 0; left--) {
            check.due("undo()", lane.undo(), left);
            check.due("stones", lane.house(0, 1), 6 + left);
        }
        check.due("the first six are forgotten", lane.undo(), LeanLane.STATE);
        check.due("stones", lane.house(0, 1), 6);
        check.due("an act behind", lane.hour(), 0);
        check.due("count(7)", lane.count(7), 1);
        check.due("undo()", lane.undo(), 0);
        check.due("THE HOUR", lane.count(3), 0);
    }

    private static void refusedChangesNothing() {
        LeanLane lane = Check.made("AH052mH438l");
        lane.hour();
        String before = Check.picture(lane);
        lane.bring(5, 1);
        lane.bring(0, 10);
        lane.take(0, 9);
        lane.take(9, 1);
        lane.deed(0, 2);
        lane.deed(0, 7);
        lane.build(0);
        lane.build(2);
        check.same("a refused act", before, lane);
    }
}
