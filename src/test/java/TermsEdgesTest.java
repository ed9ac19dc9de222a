/** The edges that the document names in its terms, up to the row of acts: each with its words, in their order. */
public final class TermsEdgesTest {
    private static final Check check = new Check("TermsEdgesTest");
    private static final int UNKNOWN = LeanLane.UNKNOWN;
    private static final int OUTSIDE = LeanLane.OUTSIDE;
    private static final int STATE = LeanLane.STATE;
    private static final int FULL = LeanLane.FULL;
    private static final int NONE = LeanLane.NONE;

    private static final int LOAD = 5, GIVES = 6, GROUND = 7;

    public static void main(String[] args) {
        lastCall();
        numbersOfRefusals();
        firstRefusal();
        refusedChangesNothing();
        fractions();
        noHouses();
        numberedAsTold();
        madeAnew();
        fewerHousesThanAhead();
        givesLeased();
        givesHollow();
        givesHoly();
        givesUpsideDown();
        givesOfMuch();
        doesNotStand();
        loadsAheadOfTheHour();
        givesOfThoseThatStand();
        allAtOnce();
        leansOnNothing();
        monkAlwaysStands();
        tooMuchGround();
        groundOfTheHour();
        mostStones();
        fewestStones();
        deedAndBuilt();
        rowOfActs();
        firstActForgotten();
        undone();
        check.end();
    }

    private static void lastCall() {
        check.words("An object is used for at most 512 calls after it has been made");
        LeanLane idle = new LeanLane();
        for (int call = 1; call <= 511; call++) {
            idle.hour();
        }
        check.due("the 512th call, count(3)", idle.count(3), 511);
        // 99 and 99 hollow ones that lean on one another: 96 more in each hour.
        LeanLane ring = Check.made("AH199rH199l");
        Check.heap(ring, 0, 90);
        Check.heap(ring, 1, 90);
        // 13 calls told it (wipe, 11 letters, lane), 20 brought the stones.
        for (int call = 34; call <= 511; call++) {
            ring.hour();
        }
        check.due("the 512th call, a load", ring.house(0, LOAD), 99 + 6 + 477 * 96);
    }

    private static void numbersOfRefusals() {
        check.words("UNKNOWN = -1, OUTSIDE = -2, STATE = -3, FULL = -4, NONE = -9");
        LeanLane lane = new LeanLane();
        check.due("UNKNOWN", lane.build(0), -1);
        check.due("OUTSIDE", lane.standing(-1), -2);
        check.due("STATE", lane.undo(), -3);
        check.due("FULL", States.fullText().write('A'), -4);
        check.due("NONE", lane.night(1), -9);
    }

    private static void firstRefusal() {
        check.words("REFUSALS, of several the first that a call names");
        check.refused("write(256), 64 letters", States::fullText, l -> l.write(256), OUTSIDE);
        check.refused("write(-1), 64 letters", States::fullText, l -> l.write(-1), OUTSIDE);
        check.refused("house(5, 8)", States::busy, l -> l.house(5, 8), UNKNOWN);
        check.refused("house(-1, -1)", States::busy, l -> l.house(-1, -1), UNKNOWN);
        check.refused("bring(5, 10)", States::busy, l -> l.bring(5, 10), UNKNOWN);
        check.refused("bring(0, 10), 99 stones", States::heaped, l -> l.bring(0, 10), OUTSIDE);
        check.refused("bring(0, 0), 99 stones", States::heaped, l -> l.bring(0, 0), OUTSIDE);
        check.refused("take(5, 10)", States::busy, l -> l.take(5, 10), UNKNOWN);
        check.refused("take(1, 10), no stones", States::heaped, l -> l.take(1, 10), OUTSIDE);
        check.refused("deed(5, 3)", States::busy, l -> l.deed(5, 3), UNKNOWN);
        check.refused("deed(-1, -1)", States::busy, l -> l.deed(-1, -1), UNKNOWN);
        check.refused("later(5, 31, 2)", States::busy, l -> l.later(5, 31, 2), UNKNOWN);
        check.refused("see(10, 6, 2), six seen", States::fullSeen, l -> l.see(10, 6, 2), OUTSIDE);
        check.refused("rests(5, 5, 2)", States::busy, l -> l.rests(5, 5, 2), UNKNOWN);
        check.refused("rests(0, 5, 2)", States::busy, l -> l.rests(0, 5, 2), UNKNOWN);
        check.refused("rests(5, 0, 2)", States::busy, l -> l.rests(5, 0, 2), UNKNOWN);
        check.refused("again(2), none kept there", States::busy, l -> l.again(2), UNKNOWN);
    }

    private static long refusedOnes(LeanLane lane) {
        long sum = lane.write(256) + lane.lane() + lane.house(5, 0) + lane.bring(5, 1) + lane.bring(0, 10);
        sum += lane.take(5, 1) + lane.take(0, 9) + lane.deed(0, 2) + lane.deed(0, 3) + lane.build(0) + lane.build(5);
        sum += lane.later(0, 31, 0) + lane.standing(31) + lane.falls(2) + lane.orders(1, 511, 0) + lane.piano(10);
        sum += lane.sacks(2) + lane.judge(5, 0) + lane.see(0, 0, 0) + lane.night(2) + lane.share(5, true);
        sum += lane.rests(0, 0, 0) + lane.fails(7, 0, true) + lane.years(31) + lane.keep(2) + lane.again(1) + lane.count(9);
        return sum;
    }

    private static void refusedChangesNothing() {
        check.words("What is refused changes nothing.");
        check.due("27 refused ones", refusedOnes(States.busy()), 6 * UNKNOWN + 15 * OUTSIDE + 6 * STATE);
        check.unchanged("27 refused ones", States::busy, TermsEdgesTest::refusedOnes, Whole.ASPECTS);
        check.refused("undo() of none", LeanLane::new, LeanLane::undo, STATE);
    }

    private static void fraction(String what, LeanLane lane, Check.Call above, Check.Call below, int up, int low) {
        check.due(what + ", above", above.on(lane), up);
        check.due(what + ", below", below.on(lane), low);
    }

    private static void fractions() {
        check.words("FRACTIONS are told above (upper = true; below 0, if they are)");
        fraction("less than nothing", Check.made("AH370mH031lH174l"), l -> l.share(1, true), l -> l.share(1, false), -1, 2);
        fraction("more than nothing", Check.made("AH370mH031lH174l"), l -> l.share(0, true), l -> l.share(0, false), 1, 2);
        check.words("below (1 and more), in least terms");
        fraction("nothing", Check.made("AH370mH031lH174l"), l -> l.share(2, true), l -> l.share(2, false), 0, 1);
        fraction("nothing of 10", Check.made("AH009m"), l -> l.fails(2, 5, true), l -> l.fails(2, 5, false), 0, 1);
        fraction("10 of 10", Check.made("AH009m"), l -> l.fails(0, 5, true), l -> l.fails(0, 5, false), 1, 1);
        fraction("5 of 10", Check.made("AH009m"), l -> l.fails(1, 5, true), l -> l.fails(1, 5, false), 1, 2);
        fraction("6 of 10", Check.made("AH009m"), l -> l.fails(1, 4, true), l -> l.fails(1, 4, false), 3, 5);
        fraction("7 of 10", Check.made("AH009m"), l -> l.fails(1, 3, true), l -> l.fails(1, 3, false), 7, 10);
        fraction("more than one", Check.made("AH031rH142lH354l"), l -> l.share(0, true), l -> l.share(0, false), 7, 6);
        check.words("refusals of them are told likewise");
        fraction("share(5)", States.busy(), l -> l.share(5, true), l -> l.share(5, false), UNKNOWN, UNKNOWN);
        fraction("fails(7, 0)", States.busy(), l -> l.fails(7, 0, true), l -> l.fails(7, 0, false), OUTSIDE, OUTSIDE);
        fraction("fails(0, 11)", States.busy(), l -> l.fails(0, 11, true), l -> l.fails(0, 11, false), OUTSIDE, OUTSIDE);
    }

    private static LeanLane cleared() {
        LeanLane lane = States.busy();
        Check.tell(lane, "A");
        lane.lane();
        lane.unsee();
        return lane;
    }

    private static void noHouses() {
        check.words("At first there is no HOUSE.");
        emptyLane(LeanLane::new);
        check.words("A, then HOUSES, none or more");
        emptyLane(TermsEdgesTest::cleared);
    }

    private static void emptyLane(Check.Maker maker) {
        LeanLane lane = maker.make();
        for (int what = 1; what <= 8; what++) {
            check.due("count(" + what + ")", lane.count(what), 0);
        }
        check.due("standing(30)", lane.standing(30), 0);
        check.due("rings()", lane.rings(), 0);
        check.due("piano(9)", lane.piano(9), 0);
        check.due("sacks(0)", lane.sacks(0), 0);
        check.due("sacks(1)", lane.sacks(1), 0);
        check.due("judge(4, 0)", lane.judge(4, 0), NONE);
        check.due("judge(1, 6000)", lane.judge(1, 6000), 0);
        check.due("night(0)", lane.night(0), 0);
        check.due("night(1)", lane.night(1), NONE);
        check.due("fails(0, 0, true)", lane.fails(0, 0, true), 1);
        check.due("fails(0, 10, false)", lane.fails(0, 10, false), 1);
        check.due("fails(1, 0, true)", lane.fails(1, 0, true), 0);
        check.due("fails(1, 0, false)", lane.fails(1, 0, false), 1);
        check.due("years(30)", lane.years(30), 0);
        check.due("hour()", lane.hour(), 0);
        check.due("THE HOUR", lane.count(3), 1);
        check.due("undo()", lane.undo(), 0);
        check.due("keep(1)", lane.keep(1), 0);
        check.due("again(1)", lane.again(1), 0);
        check.refused("house(0, 0)", maker, l -> l.house(0, 0), UNKNOWN);
        check.refused("bring(0, 1)", maker, l -> l.bring(0, 1), UNKNOWN);
        check.refused("take(0, 1)", maker, l -> l.take(0, 1), UNKNOWN);
        check.refused("deed(0, 0)", maker, l -> l.deed(0, 0), UNKNOWN);
        check.refused("build(0)", maker, l -> l.build(0), UNKNOWN);
        check.refused("later(0, 0, 0)", maker, l -> l.later(0, 0, 0), UNKNOWN);
        check.refused("falls(0)", maker, l -> l.falls(0), UNKNOWN);
        check.refused("share(0, true)", maker, l -> l.share(0, true), UNKNOWN);
        check.refused("rests(0, 1, 0)", maker, l -> l.rests(0, 1, 0), UNKNOWN);
        check.refused("orders(1, 1, 0)", maker, l -> l.orders(1, 1, 0), OUTSIDE);
    }

    private static void numberedAsTold() {
        check.words("none or more (6 at most), numbered as they are told");
        String text = "A";
        for (int houses = 0; houses <= 6; houses++) {
            LeanLane lane = Check.told(text);
            check.due("lane() of " + text, lane.lane(), houses);
            check.due("count(1) of " + text, lane.count(1), houses);
            for (int house = 0; house < houses; house++) {
                check.due("stones of " + house, lane.house(house, 1), house + 2);
                check.due("strength of " + house, lane.house(house, 2), 9 - house);
            }
            check.due("the one behind the last", lane.house(houses, 1), UNKNOWN);
            check.due("the one ahead of the first", lane.house(-1, 1), UNKNOWN);
            text += "H0" + (houses + 2) + (9 - houses) + "m";
        }
        check.due("a seventh", Check.told(text).lane(), STATE);
        check.due("a seventh, its place", Check.told(text).fault(), 31);
    }

    private static void madeAnew() {
        check.words("When THE LANE is made anew, all HOUSES that are not UNBUILT stand, LOAD of each that stands is its STONES, "
                + "THE HOUR is 0.");
        LeanLane lane = States.busy();
        Check.tell(lane, "AH049rH159lH269mH379rH489lH090r");
        check.isTrue("THE HOUR ahead of it", lane.count(3) > 0);
        check.due("lane()", lane.lane(), 6);
        check.due("THE HOUR", lane.count(3), 0);
        check.due("all but the unbuilt one stand", lane.count(2), 63 - 16);
        int[] loads = {4, 5, 6, 7, 0, 9};
        for (int house = 0; house < 6; house++) {
            check.due("kind of " + house, lane.house(house, 0), house == 5 ? 0 : house);
            check.due("stands, " + house, lane.house(house, 4), house == 4 ? 0 : 1);
            check.due("load of " + house, lane.house(house, LOAD), loads[house]);
        }
        check.due("the unbuilt one has its stones", lane.house(4, 1), 8);
    }

    private static void fewerHousesThanAhead() {
        check.words("or is not there");
        LeanLane lane = Check.made("AH099mH099mH099mH099mH099mH099m");
        Check.tell(lane, "AH049mH059r");
        lane.lane();
        check.due("house(2, 0), of the lane ahead", lane.house(2, 0), UNKNOWN);
        check.due("bits", lane.count(2), 3);
        check.due("stones", lane.count(4), 9);
        check.due("falls(1), nothing is next to it", lane.falls(1), 1);
        lane.hour();
        check.due("bits, an hour later", lane.count(2), 1);
        Check.tell(lane, "AH049mH059rH069m");
        lane.lane();
        check.due("falls(1), one is next to it again", lane.falls(1), NONE);
        check.due("stones", lane.count(4), 15);
    }

    /** Gives and ground of a house of a kind whose load are these stones. */
    private static void gives(int kind, int stones, int want) {
        LeanLane lane = Check.heaped("AH" + kind + "09m", 0, stones);
        lane.hour();
        check.due("load, kind " + kind + " with " + stones, lane.house(0, LOAD), stones);
        check.due("gives, kind " + kind + " of " + stones, lane.house(0, GIVES), want);
        check.due("ground, kind " + kind + " of " + stones, lane.house(0, GROUND), stones - want);
    }

    private static void givesLeased() {
        check.words("LEASED: half of it, cut");
        int[][] pairs = {{0, 0}, {1, 0}, {2, 1}, {3, 1}, {4, 2}, {5, 2}, {9, 4}, {10, 5}, {53, 26}, {54, 27}};
        for (int[] pair : pairs) {
            gives(0, pair[0], pair[1]);
        }
    }

    private static void givesHollow() {
        check.words("HOLLOW: all but 3 (0 at least)");
        int[][] pairs = {{0, 0}, {1, 0}, {2, 0}, {3, 0}, {4, 1}, {5, 2}, {9, 6}, {98, 95}, {99, 96}};
        for (int[] pair : pairs) {
            gives(1, pair[0], pair[1]);
        }
    }

    private static void givesHoly() {
        check.words("HOLY: 0");
        for (int stones = 0; stones <= 27; stones++) {
            gives(2, stones, 0);
        }
    }

    private static void givesUpsideDown() {
        check.words("UPSIDE DOWN: half of it, and 1 more, if that was cut");
        int[][] pairs = {{0, 0}, {1, 1}, {2, 1}, {3, 2}, {4, 2}, {5, 3}, {9, 5}, {10, 5}, {54, 27}, {55, 28}};
        for (int[] pair : pairs) {
            gives(3, pair[0], pair[1]);
        }
    }

    private static void givesOfMuch() {
        check.words("GROUND: what is left of it");
        // Hollow ones that lean on one another: loads go far beyond 99.
        LeanLane ring = Check.made("AH199rH189l");
        Check.heap(ring, 0, 90);
        for (int i = 0; i < 40; i++) {
            ring.hour();
        }
        int load = ring.house(0, LOAD);
        check.isTrue("a load of more than a thousand: " + load, load > 1000);
        check.due("gives of it", ring.house(0, GIVES), load - 3);
        check.due("ground of it", ring.house(0, GROUND), 3);
    }

    private static void bearsNothing(String what, LeanLane lane, int house) {
        check.due(what + ", stands", lane.house(house, 4), 0);
        check.due(what + ", load", lane.house(house, LOAD), 0);
        check.due(what + ", gives", lane.house(house, GIVES), 0);
        check.due(what + ", ground", lane.house(house, GROUND), 0);
        check.due(what + ", load in no hours", lane.later(house, 0, 0), 0);
        check.due(what + ", ground in 5 hours", lane.later(house, 5, 1), 0);
    }

    private static void doesNotStand() {
        check.words("A HOUSE that does not stand has LOAD, GIVES, GROUND 0.");
        for (int kind = 0; kind <= 3; kind++) {
            // It falls of 9 on no strength; its neighbour leans on it, and is holy so that it does not fall.
            LeanLane lane = Check.made("AH" + kind + "90mH209l");
            check.isTrue("a load ahead of it", lane.house(0, LOAD) == 9);
            check.due("it falls", lane.hour(), 1);
            bearsNothing("fallen, kind " + kind, lane, 0);
            check.due("its stones are there", lane.house(0, 1), 9);
            lane.bring(0, 9);
            bearsNothing("fallen, 9 more, kind " + kind, lane, 0);
            lane.hour();
            bearsNothing("fallen, an hour later, kind " + kind, lane, 0);
        }
        LeanLane unbuilt = Check.made("AH099rH499m");
        bearsNothing("unbuilt", unbuilt, 1);
        unbuilt.bring(1, 9);
        bearsNothing("unbuilt, 9 more", unbuilt, 1);
        unbuilt.hour();
        bearsNothing("unbuilt, leant on for an hour", unbuilt, 1);
        check.due("ground of all", unbuilt.count(5), 0);
        check.due("what the monk bears", unbuilt.count(6), 0);
    }

    private static void loads(String what, LeanLane lane, int... want) {
        for (int house = 0; house < want.length; house++) {
            check.due(what + ", load of " + house, lane.house(house, LOAD), want[house]);
        }
    }

    private static void loadsAheadOfTheHour() {
        check.words("GIVES of its LOAD as it was ahead of THE HOUR");
        LeanLane right = Check.made("AH189rH139rH219m");
        right.hour();
        loads("to the right, one hour", right, 8, 8, 1);
        right.hour();
        loads("to the right, two hours", right, 8, 8, 6);
        LeanLane left = Check.made("AH219mH139lH189l");
        left.hour();
        loads("to the left, one hour", left, 1, 8, 8);
        left.hour();
        loads("to the left, two hours", left, 6, 8, 8);
        // What is brought now is in the load of this hour, and is given in the next one.
        LeanLane brought = Check.heaped("AH139rH219m", 0, 5);
        loads("brought", brought, 3, 1);
        brought.hour();
        loads("brought, one hour", brought, 8, 1);
        brought.hour();
        loads("brought, two hours", brought, 8, 6);
    }

    private static void givesOfThoseThatStand() {
        check.words("what each HOUSE that stands and LEANS on it GIVES");
        LeanLane falls = Check.made("AH190rH219mH159l");
        check.due("0 falls", falls.hour(), 1);
        check.due("it gave in that hour", falls.house(1, LOAD), 1 + 6 + 2);
        falls.hour();
        check.due("it gives no more", falls.house(1, LOAD), 1 + 2);
        LeanLane unbuilt = Check.made("AH499rH219mH159l");
        unbuilt.hour();
        check.due("an unbuilt one gives nothing", unbuilt.house(1, LOAD), 1 + 2);
        LeanLane away = Check.made("AH199mH219mH159rH209m");
        away.hour();
        check.due("those that lean elsewhere give nothing", away.house(1, LOAD), 1);
        check.due("but there", away.house(3, LOAD), 2);
        LeanLane ends = Check.made("AH199lH209mH209mH209mH209mH199r");
        check.due("what leans out of the row", ends.hour(), 2);
        for (int house = 1; house <= 4; house++) {
            check.due("gives to no house, " + house, ends.house(house, LOAD), 0);
        }
        LeanLane turn = Check.made("AH199lH209mH209mH209mH209mH219m");
        turn.hour();
        check.due("the last one is not ahead of the first", turn.house(5, LOAD), 1);
        LeanLane back = Check.made("AH219mH209mH209mH209mH209mH199r");
        back.hour();
        check.due("the first one is not next to the last", back.house(0, LOAD), 1);
        check.due("nor does the monk bear that", Check.made("AH199lH199r").count(6), 0);
        LeanLane far = Check.made("AH199rH139rH219m");
        far.hour();
        check.due("nothing comes past the next one", far.house(2, LOAD), 1);
    }

    private static void allAtOnce() {
        check.words("HOUSES fall, all at once");
        check.due("six in one hour", Check.made("AH290mH290mH290mH290mH290mH290m").hour(), 6);
        LeanLane right = Check.made("AH009rH290m");
        check.due("1 falls alone", right.hour(), 1);
        check.due("what leans on it stands yet", right.count(2), 1);
        check.due("and falls an hour later", right.hour(), 1);
        LeanLane left = Check.made("AH290mH009l");
        check.due("0 falls alone", left.hour(), 1);
        check.due("what leans on it stands yet", left.count(2), 2);
        check.due("and falls an hour later", left.hour(), 1);
    }

    /** A lane of holy ones that stand of themselves, but for one. */
    private static String amongHoly(int houses, int at, String house) {
        StringBuilder text = new StringBuilder("A");
        for (int i = 0; i < houses; i++) {
            text.append(i == at ? house : "H209m");
        }
        return text.toString();
    }

    private static void leansOnNothing() {
        check.words("such as stand, but are no HOLY ones, and LEAN on a HOUSE that does not stand, or is not there");
        for (int houses = 1; houses <= 6; houses++) {
            for (int kind = 0; kind <= 3; kind++) {
                int falls = kind == 2 ? 0 : 1;
                String first = amongHoly(houses, 0, "H" + kind + "09l");
                String last = amongHoly(houses, houses - 1, "H" + kind + "09r");
                check.due("nothing is ahead: " + first, Check.made(first).hour(), falls);
                check.due("nothing is next: " + last, Check.made(last).hour(), falls);
            }
        }
        for (int kind = 0; kind <= 3; kind++) {
            int falls = kind == 2 ? 0 : 1;
            check.due("the next one is unbuilt, kind " + kind, Check.made("AH" + kind + "09rH409m").hour(), falls);
            check.due("the one ahead is unbuilt, kind " + kind, Check.made("AH409mH" + kind + "09l").hour(), falls);
            check.due("the next one stands, kind " + kind, Check.made("AH" + kind + "09rH209m").hour(), 0);
            check.due("the one ahead stands, kind " + kind, Check.made("AH209mH" + kind + "09l").hour(), 0);
            LeanLane fallen = Check.made("AH" + kind + "09rH290m");
            fallen.hour();
            check.due("the next one has fallen, kind " + kind, fallen.hour(), falls);
        }
        check.due("an unbuilt one does not fall", Check.made("AH409l").hour(), 0);
        LeanLane once = Check.made("AH009l");
        once.hour();
        check.due("a fallen one does not fall again", once.hour(), 0);
    }

    private static void monkAlwaysStands() {
        check.words("(the monk always stands)");
        LeanLane lane = Check.made("AH099mH199mH299mH399m");
        for (int hour = 1; hour <= 40; hour++) {
            check.due("hour " + hour, lane.hour(), 0);
        }
        check.due("what he bears", lane.count(6), 4 + 6 + 0 + 5);
        LeanLane alone = Check.made("AH009mH290mH409m");
        alone.hour();
        check.due("one stands on him beside what does not", alone.count(2), 1);
    }

    private static void heavy(int kind, int strength, int stones, int falls) {
        LeanLane lane = Check.heaped("AH" + kind + "0" + strength + "m", 0, stones);
        check.due("hour(), kind " + kind + ", strength " + strength + ", " + stones + " stones", lane.hour(), falls);
    }

    private static void tooMuchGround() {
        check.words("such as have more GROUND than 3 times their STRENGTH");
        for (int strength = 0; strength <= 9; strength++) {
            int most = 3 * strength;
            // Ground of a leased one is half of its load and what was cut, of one upside down half of it.
            heavy(0, strength, 2 * most, 0);
            heavy(0, strength, 2 * most + 1, 1);
            heavy(2, strength, most, 0);
            heavy(2, strength, most + 1, 1);
            heavy(3, strength, 2 * most + 1, 0);
            heavy(3, strength, 2 * most + 2, 1);
        }
        // Of a hollow one it is never more than 3.
        heavy(1, 0, 0, 0);
        heavy(1, 0, 1, 1);
        heavy(1, 1, 3, 0);
        heavy(1, 1, 99, 0);
    }

    private static void groundOfTheHour() {
        check.words("AN HOUR, in this order");
        check.due("what comes with the hour makes it fall", Check.made("AH189rH233m").hour(), 0);
        check.due("what comes with the hour makes it fall", Check.made("AH189rH232m").hour(), 1);
        LeanLane taken = Check.made("AH292m");
        taken.take(0, 3);
        check.due("ground ahead of the hour", taken.house(0, GROUND), 9);
        check.due("what is taken ahead of it weighs no more", taken.hour(), 0);
        check.words("THE HOUR is one more");
        check.due("THE HOUR", taken.count(3), 1);
        taken.hour();
        check.due("THE HOUR, another", taken.count(3), 2);
    }

    private static void mostStones() {
        check.words("BROUGHT: 1 to 9 STONES more in a HOUSE (99 at most)");
        for (int v = 1; v <= 9; v++) {
            int more = v;
            LeanLane fits = Check.heaped("AH199m", 0, 90 - v);
            check.due("99 less " + v + ", and " + v, fits.bring(0, v), 99);
            Check.Maker tooMany = () -> Check.heaped("AH199mH019m", 0, 91 - more);
            check.refused("100 less " + v + ", and " + v, tooMany, l -> l.bring(0, more), FULL);
        }
        LeanLane lane = Check.heaped("AH199mH019m", 0, 90);
        check.due("99 there are", lane.house(0, 1), 99);
        check.due("another one has room", lane.bring(1, 9), 10);
        check.due("of all there may be more", lane.count(4), 109);
        check.due("one taken", lane.take(0, 1), 98);
        check.due("one brought", lane.bring(0, 1), 99);
    }

    private static void fewestStones() {
        check.words("TAKEN: 1 to 9 less, if so many are there");
        for (int v = 1; v <= 9; v++) {
            int less = v;
            LeanLane lane = Check.made("AH1" + v + "9m");
            check.due(v + ", and " + v + " are taken", lane.take(0, v), 0);
            Check.Maker tooFew = () -> Check.made("AH1" + (less - 1) + "9m");
            check.refused(v - 1 + ", and " + v + " are taken", tooFew, l -> l.take(0, less), STATE);
        }
        LeanLane full = Check.heaped("AH199m", 0, 90);
        check.due("from 99", full.take(0, 9), 90);
    }

    private static void deedAndBuilt() {
        check.words("DEED: a HOUSE LEANS otherwise");
        for (int from = 0; from <= 2; from++) {
            for (int to = 0; to <= 2; to++) {
                int d = to;
                String text = "AH209mH009" + "lrm".charAt(from) + "H209m";
                if (from == to) {
                    check.refused("deed(1, " + d + ") of " + text, () -> Check.made(text), l -> l.deed(1, d), STATE);
                } else {
                    LeanLane lane = Check.made(text);
                    check.due("deed(1, " + d + ") of " + text, lane.deed(1, d), from);
                    check.due("it leans so", lane.house(1, 3), to);
                }
            }
        }
        check.words("BUILT: a HOUSE that does not stand (UNBUILT, or fallen) stands, LEASED, if it was UNBUILT, "
                + "its LOAD is its STONES.");
        LeanLane unbuilt = Check.made("AH479m");
        unbuilt.bring(0, 5);
        check.due("build(0), unbuilt", unbuilt.build(0), 12);
        check.due("its kind", unbuilt.house(0, 0), 0);
        check.due("it stands", unbuilt.house(0, 4), 1);
        check.due("its load", unbuilt.house(0, LOAD), 12);
        for (int kind = 0; kind <= 3; kind++) {
            LeanLane fallen = Check.made("AH" + kind + "90m");
            fallen.hour();
            fallen.take(0, 4);
            check.due("build(0), fallen", fallen.build(0), 5);
            check.due("its kind", fallen.house(0, 0), kind);
            check.due("it stands", fallen.house(0, 4), 1);
            check.due("its load", fallen.house(0, LOAD), 5);
        }
    }

    private static void rowOfActs() {
        check.words("ACTS (HOURS, BROUGHT, TAKEN, DEEDS, BUILT) are a row (14 at most; of more the first one is forgotten)");
        for (int acts = 0; acts <= 17; acts++) {
            LeanLane lane = Check.made("AH009m");
            for (int i = 0; i < acts; i++) {
                lane.bring(0, 1);
            }
            int held = Math.min(14, acts);
            check.due(acts + " acts, count(7)", lane.count(7), held);
            for (int left = held - 1; left >= 0; left--) {
                check.due(acts + " acts, undo()", lane.undo(), left);
            }
            check.due(acts + " acts, what is forgotten stays", lane.house(0, 1), acts - held);
            check.due(acts + " acts, undo() of none", lane.undo(), STATE);
        }
    }

    /** One act of each kind, on a lane of one leased and one unbuilt house. */
    private static final Check.Call[] ACTS = {
        l -> l.hour(), l -> l.bring(0, 9), l -> l.take(0, 2), l -> l.deed(0, 1), l -> l.build(1),
    };

    private static void firstActForgotten() {
        for (Check.Call act : ACTS) {
            LeanLane lane = Check.made("AH059mH439m");
            act.on(lane);
            check.due("each is an act", lane.count(7), 1);
            String behind = actless(lane);
            for (int i = 0; i < 14; i++) {
                check.isTrue("14 more", lane.deed(1, i % 2) >= 0);
            }
            for (int left = 13; left >= 0; left--) {
                check.due("undo()", lane.undo(), left);
            }
            check.due("the first one can not be undone", lane.undo(), STATE);
            check.isTrue("it is as it was behind the first one", behind.equals(actless(lane)));
        }
    }

    private static String actless(LeanLane lane) {
        return lane.count(2) + " " + lane.count(3) + " " + Whole.houses(lane);
    }

    private static void undone() {
        check.words("the last one can be undone");
        for (Check.Call last : ACTS) {
            LeanLane lane = Check.made("AH059mH439m");
            lane.hour();
            lane.bring(0, 4);
            String ahead = Check.picture(lane);
            last.on(lane);
            check.isTrue("it did something", !ahead.equals(Check.picture(lane)));
            check.due("undo()", lane.undo(), 2);
            check.same("an act and its undoing", ahead, lane);
        }
    }
}
