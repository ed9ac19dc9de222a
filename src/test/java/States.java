/** Objects in the midst of their use, to see what a call changes and what it does not. */
final class States {
    static final String FIVE = "AH049rH169rH352rH289lH435m";

    private States() {
    }

    /**
     * Five houses: 0, 1 and 3 stand, 2 has fallen, 4 is unbuilt. There were more acts than the row holds, of every kind;
     * slot 0 is kept, slot 1 is not; three things are seen; the text has a fault.
     */
    static LeanLane busy() {
        LeanLane lane = Check.made(FIVE);
        lane.seed(77);
        lane.see(1, 2, 0);
        lane.see(9, 0, 1);
        lane.see(3, 3, 1);
        lane.bring(1, 3);
        lane.hour();
        lane.keep(0);
        lane.take(1, 2);
        lane.bring(2, 9);
        lane.deed(0, 2);
        lane.hour();
        lane.build(2);
        lane.deed(1, 0);
        lane.bring(4, 4);
        lane.hour();
        lane.build(2);
        lane.take(3, 1);
        lane.hour();
        lane.bring(0, 3);
        lane.take(0, 1);
        lane.bring(3, 1);
        lane.deed(3, 2);
        Check.tell(lane, "AH123mH2");
        return lane;
    }

    /** The same with a text that is a lane. */
    static LeanLane busyWithLane() {
        LeanLane lane = busy();
        Check.tell(lane, "AH123mH214lH409r");
        return lane;
    }

    /** The same with 64 letters. */
    static LeanLane fullText() {
        LeanLane lane = busy();
        while (lane.count(0) < 64) {
            lane.write('H');
        }
        return lane;
    }

    /** The same with six things seen. */
    static LeanLane fullSeen() {
        LeanLane lane = busy();
        lane.see(9, 1, 1);
        lane.see(8, 3, 1);
        lane.see(7, 3, 1);
        return lane;
    }

    /** The same with 99 stones in house 0, of which it falls with the next hour, and none in house 1. */
    static LeanLane heaped() {
        LeanLane lane = busy();
        Check.heap(lane, 0, 99 - lane.house(0, 1));
        lane.take(1, lane.house(1, 1));
        return lane;
    }
}
