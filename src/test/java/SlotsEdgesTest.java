/** The edges of promises 29 to 31: slots and counts. */
public final class SlotsEdgesTest {
    private static final Check check = new Check("SlotsEdgesTest");
    private static final int UNKNOWN = LeanLane.UNKNOWN;
    private static final int OUTSIDE = LeanLane.OUTSIDE;
    private static final int STATE = LeanLane.STATE;

    public static void main(String[] args) {
        keep();
        keepRefused();
        again();
        againRowIsEmpty();
        againLeavesTheRest();
        againRefused();
        slotsOfTheirOwn();
        countLeast();
        countMost();
        countRefused();
        check.end();
    }

    private static void keep() {
        check.words("They are kept: THE HOUR.");
        LeanLane lane = new LeanLane();
        check.due("keep(0), at first", lane.keep(0), 0);
        check.due("keep(1), at first", lane.keep(1), 0);
        lane.hour();
        check.due("keep(0), an hour later", lane.keep(0), 1);
        check.due("keep(0), busy", States.busy().keep(0), 4);
        check.due("keep(1), busy", States.busy().keep(1), 4);
        check.unchanged("keep(0)", States::busy, l -> l.keep(0), Whole.ALL_BUT_SLOTS);
        check.unchanged("keep(1)", States::busy, l -> l.keep(1), Whole.ALL_BUT_SLOTS);
        check.due("acts behind it", actsBehindKeep(), 14);
    }

    private static int actsBehindKeep() {
        LeanLane lane = States.busy();
        lane.keep(0);
        return lane.count(7);
    }

    private static void keepRefused() {
        check.words("SLOTS 0 to 1");
        for (int slot : Check.outside(0, 1)) {
            check.refused("keep(" + slot + ")", States::busy, l -> l.keep(slot), UNKNOWN);
            check.refused("keep(" + slot + ") of none", LeanLane::new, l -> l.keep(slot), UNKNOWN);
        }
        // Numbers whose lower bits are those of a slot.
        check.refused("keep(32)", States::busy, l -> l.keep(32), UNKNOWN);
        check.refused("again(32)", States::busy, l -> l.again(32), UNKNOWN);
    }

    private static void again() {
        check.words("They are as they were kept: THE HOUR.");
        LeanLane lane = States.busy();
        lane.keep(1);
        String kept = facts(lane);
        lane.hour();
        lane.bring(0, 9);
        lane.take(1, 1);
        lane.deed(0, 0);
        lane.build(2);
        lane.build(4);
        lane.hour();
        check.isTrue("much has changed", !kept.equals(facts(lane)));
        check.due("again(1)", lane.again(1), 4);
        check.isTrue("all is as it was", kept.equals(facts(lane)));
        lane.hour();
        check.due("again(1), once more", lane.again(1), 4);
        check.isTrue("all is as it was", kept.equals(facts(lane)));
        check.due("again(0)", lane.again(0), 1);
        check.due("THE HOUR of slot 0", lane.count(3), 1);
        check.due("again(1) behind again(0)", lane.again(1), 4);
        check.isTrue("all is as it was", kept.equals(facts(lane)));
        LeanLane none = new LeanLane();
        none.hour();
        none.keep(0);
        none.hour();
        check.due("again(0) of no houses", none.again(0), 1);
        check.due("THE HOUR", none.count(3), 1);
    }

    private static String facts(LeanLane lane) {
        return lane.count(2) + " " + lane.count(3) + " " + Whole.houses(lane);
    }

    private static void againRowIsEmpty() {
        check.words("(THE ROW of ACTS is empty when one goes on)");
        LeanLane lane = States.busy();
        check.due("acts ahead of it", lane.count(7), 14);
        lane.again(0);
        check.due("acts", lane.count(7), 0);
        check.due("undo()", lane.undo(), STATE);
        lane.hour();
        lane.hour();
        check.due("acts behind it", lane.count(7), 2);
        check.due("undo()", lane.undo(), 1);
        check.due("undo()", lane.undo(), 0);
        check.due("no more than those", lane.undo(), STATE);
        check.due("THE HOUR", lane.count(3), 1);
        // What is kept with a row is gone on from without one.
        LeanLane full = States.busy();
        full.keep(0);
        full.again(0);
        check.due("acts", full.count(7), 0);
    }

    private static void againLeavesTheRest() {
        check.words("SLOTS 0 to 1 keep HOUSES, LOADS, THE HOUR");
        LeanLane lane = States.busyWithLane();
        lane.again(0);
        check.due("the text", lane.count(0), 16);
        check.due("and its fault", lane.fault(), LeanLane.NONE);
        check.due("seen", lane.count(8), 3);
        check.due("the seed", lane.seed(0), 77);
        check.due("the slot stays", lane.again(0), 1);
        check.due("the other is not kept", lane.again(1), STATE);
    }

    private static void againRefused() {
        check.words("UNKNOWN; STATE: none were kept.");
        for (int slot : Check.outside(0, 1)) {
            check.refused("again(" + slot + ")", States::busy, l -> l.again(slot), UNKNOWN);
            check.refused("again(" + slot + ") of none", LeanLane::new, l -> l.again(slot), UNKNOWN);
        }
        check.refused("again(1)", States::busy, l -> l.again(1), STATE);
        check.refused("again(0), at first", LeanLane::new, l -> l.again(0), STATE);
        check.refused("again(1), at first", LeanLane::new, l -> l.again(1), STATE);
        Check.Maker anew = () -> {
            LeanLane lane = States.busyWithLane();
            lane.keep(1);
            lane.lane();
            lane.hour();
            return lane;
        };
        check.refused("again(0), a lane made anew", anew, l -> l.again(0), STATE);
        check.refused("again(1), a lane made anew", anew, l -> l.again(1), STATE);
        // A refused lane() leaves what was kept.
        LeanLane lane = States.busy();
        lane.lane();
        check.due("again(0), a lane refused", lane.again(0), 1);
    }

    private static void slotsOfTheirOwn() {
        LeanLane lane = Check.made("AH009m");
        lane.keep(0);
        check.due("again(1), slot 0 kept alone", lane.again(1), STATE);
        lane.bring(0, 1);
        lane.keep(1);
        lane.bring(0, 1);
        lane.keep(0);
        lane.bring(0, 1);
        lane.again(1);
        check.due("stones of slot 1", lane.house(0, 1), 1);
        lane.again(0);
        check.due("stones of slot 0, kept anew", lane.house(0, 1), 2);
        LeanLane second = Check.made("AH009m");
        second.keep(1);
        check.due("again(0), slot 1 kept alone", second.again(0), STATE);
        // What is undone does not undo what was kept.
        LeanLane undone = Check.made("AH009m");
        undone.bring(0, 5);
        undone.keep(0);
        undone.undo();
        check.due("stones", undone.house(0, 1), 0);
        undone.again(0);
        check.due("stones that were kept", undone.house(0, 1), 5);
    }

    private static void countLeast() {
        check.words("0 letters of THE TEXT, 1 HOUSES, 2 which stand (bits), 3 THE HOUR, 4 STONES of all together, 5 GROUND of all "
                + "together, 6 what the monk bears (GIVES of those that stand and LEAN on him), 7 ACTS in the row, 8 SEEN");
        LeanLane none = new LeanLane();
        for (int what = 0; what <= 8; what++) {
            check.due("count(" + what + "), at first", none.count(what), 0);
        }
        int[] busy = {8, 5, 11, 4, 42, 21, 4, 14, 3};
        // Houses 0, 1 and 3 stand with loads 8, 7 and 14: leased on the monk, hollow on 0, holy on the monk.
        for (int what = 0; what <= 8; what++) {
            check.due("count(" + what + "), busy", States.busy().count(what), busy[what]);
        }
        check.unchanged("count()", States::busy, l -> l.count(5), Whole.ASPECTS);
    }

    private static void countMost() {
        LeanLane lane = Check.made("AH199mH199mH199mH199mH199mH199m");
        for (int house = 0; house < 6; house++) {
            Check.heap(lane, house, 90);
        }
        lane.hour();
        for (int h = 1; h <= 7; h++) {
            lane.see(h, 0, 1);
        }
        for (int letter = 0; letter < 40; letter++) {
            lane.write('x');
        }
        int[] most = {64, 6, 63, 1, 6 * 99, 6 * 3, 6 * 96, 14, 6};
        for (int what = 0; what <= 8; what++) {
            check.due("count(" + what + "), the most", lane.count(what), most[what]);
        }
        lane.deed(0, 0);
        check.due("one that leans elsewhere gives him nothing", lane.count(6), 5 * 96);
        lane.hour();
        check.due("one that has fallen has no ground", lane.count(5), 5 * 3);
        lane.deed(0, 2);
        check.due("one that has fallen gives him nothing", lane.count(6), 5 * 96);
        check.due("its stones count", lane.count(4), 6 * 99);
    }

    private static void countRefused() {
        for (int what : Check.outside(0, 8)) {
            check.refused("count(" + what + ")", States::busy, l -> l.count(what), OUTSIDE);
            check.refused("count(" + what + ") of none", LeanLane::new, l -> l.count(what), OUTSIDE);
        }
    }
}
