/** The edges of promises 7 to 12: an hour, stones brought and taken, deeds, houses built, and all undone. */
public final class ActsEdgesTest {
    private static final Check check = new Check("ActsEdgesTest");
    private static final int UNKNOWN = LeanLane.UNKNOWN;
    private static final int OUTSIDE = LeanLane.OUTSIDE;
    private static final int STATE = LeanLane.STATE;
    private static final int FULL = LeanLane.FULL;

    public static void main(String[] args) {
        hour();
        bring();
        bringRefused();
        take();
        takeRefused();
        deed();
        deedRefused();
        build();
        buildRefused();
        undo();
        undoRefused();
        actsLeaveTheRest();
        check.end();
    }

    private static void hour() {
        check.words("AN HOUR: how many fall.");
        check.due("of no houses", new LeanLane().hour(), 0);
        StringBuilder text = new StringBuilder("A");
        for (int falling = 0; falling <= 6; falling++) {
            LeanLane lane = Check.made(text.toString());
            check.due("hour() of " + text, lane.hour(), falling);
            check.due("none is left", lane.count(2), 0);
            check.due("an act", lane.count(7), 1);
            check.due("THE HOUR", lane.count(3), 1);
            text.append("H290m");
        }
        check.due("of six that stand", Check.made("AH209mH209mH209mH209mH209mH209m").hour(), 0);
        check.due("an hour in which nothing falls is an act", quietHours(3), 3);
    }

    private static int quietHours(int hours) {
        LeanLane lane = Check.made("AH209m");
        for (int i = 0; i < hours; i++) {
            lane.hour();
        }
        return lane.count(7);
    }

    private static void bring() {
        check.words("BROUGHT: STONES then.");
        for (int v = 1; v <= 9; v++) {
            LeanLane lane = Check.made("AH049mH439m");
            check.due("bring(0, " + v + ")", lane.bring(0, v), 4 + v);
            check.due("house(0, 1)", lane.house(0, 1), 4 + v);
            check.due("the load waits for an hour", lane.house(0, 5), 4);
            check.due("bring(1, " + v + "), unbuilt", lane.bring(1, v), 3 + v);
            check.due("acts", lane.count(7), 2);
            check.due("THE HOUR", lane.count(3), 0);
        }
        check.due("into a fallen one", States.busy().bring(2, 1), 15);
        check.due("into the last one", States.busy().bring(4, 1), 8);
    }

    private static void bringRefused() {
        check.words("UNKNOWN; OUTSIDE: v (1 to 9); FULL: there would be more than 99.");
        for (int house : Check.outside(0, 4)) {
            check.refused("bring(" + house + ", 1)", States::busy, l -> l.bring(house, 1), UNKNOWN);
            check.refused("bring(" + house + ", 0)", States::busy, l -> l.bring(house, 0), UNKNOWN);
        }
        for (int v : Check.outside(1, 9)) {
            check.refused("bring(0, " + v + ")", States::busy, l -> l.bring(0, v), OUTSIDE);
            check.refused("bring(0, " + v + "), 99 there are", States::heaped, l -> l.bring(0, v), OUTSIDE);
        }
        check.refused("bring(0, 1), 99 there are", States::heaped, l -> l.bring(0, 1), FULL);
        check.refused("bring(0, 9), 99 there are", States::heaped, l -> l.bring(0, 9), FULL);
        // An unbuilt one has room for 99 too.
        check.due("bring(0, 9), unbuilt, 90 there are", Check.heaped("AH409m", 0, 90).bring(0, 9), 99);
        check.refused("bring(0, 9), unbuilt, 91 there are", () -> Check.heaped("AH409m", 0, 91), l -> l.bring(0, 9), FULL);
    }

    private static void take() {
        check.words("TAKEN: STONES then.");
        for (int v = 1; v <= 9; v++) {
            LeanLane lane = Check.made("AH193mH499m");
            check.due("take(0, " + v + ")", lane.take(0, v), 9 - v);
            check.due("house(0, 1)", lane.house(0, 1), 9 - v);
            check.due("the load waits for an hour", lane.house(0, 5), 9);
            check.due("take(1, " + v + "), unbuilt", lane.take(1, v), 9 - v);
            check.due("acts", lane.count(7), 2);
            lane.hour();
            check.due("the load of the hour", lane.house(0, 5), 9 - v);
        }
        check.due("from a fallen one", States.busy().take(2, 9), 5);
        check.due("from the last one", States.busy().take(4, 7), 0);
    }

    private static void takeRefused() {
        check.words("UNKNOWN; OUTSIDE: v (1 to 9); STATE: there are fewer.");
        for (int house : Check.outside(0, 4)) {
            check.refused("take(" + house + ", 1)", States::busy, l -> l.take(house, 1), UNKNOWN);
            check.refused("take(" + house + ", 0)", States::busy, l -> l.take(house, 0), UNKNOWN);
        }
        for (int v : Check.outside(1, 9)) {
            check.refused("take(0, " + v + ")", States::busy, l -> l.take(0, v), OUTSIDE);
            check.refused("take(1, " + v + "), none there are", States::heaped, l -> l.take(1, v), OUTSIDE);
        }
        check.refused("take(1, 1), none there are", States::heaped, l -> l.take(1, 1), STATE);
        check.refused("take(1, 9), none there are", States::heaped, l -> l.take(1, 9), STATE);
        check.refused("take(4, 8), 7 there are", States::busy, l -> l.take(4, 8), STATE);
    }

    private static void deed() {
        check.words("DEED: how it LEANED.");
        LeanLane lane = Check.made("AH209mH009lH409r");
        check.due("deed(1, 1)", lane.deed(1, 1), 0);
        check.due("deed(1, 2)", lane.deed(1, 2), 1);
        check.due("deed(1, 0)", lane.deed(1, 0), 2);
        check.due("deed(2, 2), unbuilt", lane.deed(2, 2), 1);
        check.due("deed(0, 0), on what is not there", lane.deed(0, 0), 2);
        check.due("deed(2, 1), on what is not there", lane.deed(2, 1), 2);
        check.due("acts", lane.count(7), 6);
        check.due("of a fallen one", States.busy().deed(2, 0), 1);
    }

    private static void deedRefused() {
        check.words("UNKNOWN; OUTSIDE: d (0 l, 1 r, 2 m); STATE: it LEANS so.");
        for (int house : Check.outside(0, 4)) {
            check.refused("deed(" + house + ", 0)", States::busy, l -> l.deed(house, 0), UNKNOWN);
            check.refused("deed(" + house + ", 3)", States::busy, l -> l.deed(house, 3), UNKNOWN);
        }
        for (int d : Check.outside(0, 2)) {
            check.refused("deed(0, " + d + ")", States::busy, l -> l.deed(0, d), OUTSIDE);
        }
        int[] leans = {2, 0, 1, 2, 2};
        for (int house = 0; house < 5; house++) {
            int one = house;
            check.refused("deed(" + one + ", " + leans[one] + ")", States::busy, l -> l.deed(one, leans[one]), STATE);
        }
    }

    private static void build() {
        check.words("BUILT: its STONES.");
        check.due("an unbuilt one", States.busy().build(4), 7);
        check.due("a fallen one", States.busy().build(2), 14);
        check.due("one without stones", Check.made("AH409m").build(0), 0);
        check.due("one with 99", Check.heaped("AH499m", 0, 90).build(0), 99);
        LeanLane lane = Check.made("AH409r");
        check.due("where it has nothing to lean on", lane.build(0), 0);
        check.due("it stands", lane.count(2), 1);
        check.due("it falls with the hour", lane.hour(), 1);
        check.due("it can be built again", lane.build(0), 0);
        check.due("acts", lane.count(7), 3);
    }

    private static void buildRefused() {
        check.words("UNKNOWN; STATE: it stands.");
        for (int house : Check.outside(0, 4)) {
            check.refused("build(" + house + ")", States::busy, l -> l.build(house), UNKNOWN);
        }
        check.refused("build(0)", States::busy, l -> l.build(0), STATE);
        check.refused("build(1)", States::busy, l -> l.build(1), STATE);
        check.refused("build(3)", States::busy, l -> l.build(3), STATE);
        check.refused("build(0), built", () -> built("AH439m"), l -> l.build(0), STATE);
    }

    private static LeanLane built(String text) {
        LeanLane lane = Check.made(text);
        lane.build(0);
        return lane;
    }

    private static void undo() {
        check.words("The last ACT is undone: how many are left.");
        LeanLane lane = States.busy();
        for (int left = 13; left >= 0; left--) {
            check.due("undo()", lane.undo(), left);
            check.due("count(7)", lane.count(7), left);
        }
        check.due("undo() of none", lane.undo(), STATE);
        // An act that is undone makes room for another one.
        LeanLane full = States.busy();
        full.undo();
        full.hour();
        check.due("14 again", full.count(7), 14);
        full.hour();
        check.due("14 still", full.count(7), 14);
        check.due("undo()", full.undo(), 13);
        // Rows that are filled and emptied many times over.
        LeanLane turning = Check.made("AH009m");
        for (int turn = 0; turn < 5; turn++) {
            Check.heap(turning, 0, 16);
            turning.undo();
            turning.undo();
            check.due("stones behind turn " + turn, turning.house(0, 1), 0);
            for (int i = 0; i < 16; i++) {
                turning.bring(0, 1);
            }
            check.due("acts behind turn " + turn, turning.count(7), 14);
            for (int left = 13; left >= 0; left--) {
                check.due("undo(), turn " + turn, turning.undo(), left);
            }
            check.due("undo() of none, turn " + turn, turning.undo(), STATE);
            check.due("two stay, turn " + turn, turning.take(0, 2), 0);
            check.due("undo() of that", turning.undo(), 0);
            turning.take(0, 2);
        }
    }

    private static void undoRefused() {
        check.words("STATE: there is none.");
        check.refused("undo(), at first", LeanLane::new, LeanLane::undo, STATE);
        check.refused("undo(), a lane made anew", () -> Check.made(States.FIVE), LeanLane::undo, STATE);
        Check.Maker emptied = () -> {
            LeanLane lane = States.busy();
            for (int i = 0; i < 14; i++) {
                lane.undo();
            }
            return lane;
        };
        check.refused("undo(), all 14 undone", emptied, LeanLane::undo, STATE);
        Check.Maker again = () -> {
            LeanLane lane = States.busy();
            lane.again(0);
            return lane;
        };
        check.refused("undo(), a kept lane gone on from", again, LeanLane::undo, STATE);
    }

    private static void actsLeaveTheRest() {
        check.words("SLOTS 0 to 1 keep HOUSES, LOADS, THE HOUR");
        Check.Call[] acts = {
            l -> l.hour(), l -> l.bring(0, 1), l -> l.take(0, 1), l -> l.deed(0, 0), l -> l.build(2), l -> l.undo(),
        };
        for (int i = 0; i < acts.length; i++) {
            check.unchanged("act " + i + ": slots", States::busy, acts[i], Whole.SLOTS);
            LeanLane lane = States.busyWithLane();
            check.isTrue("act " + i + " can be", acts[i].on(lane) >= 0);
            check.due("act " + i + ": the text", lane.count(0), 16);
            check.due("act " + i + ": seen", lane.count(8), 3);
            check.due("act " + i + ": the seed", lane.seed(0), 77);
        }
    }
}
