/** The edges of promises 13 to 20: hours to come, rings, orders, a piano, sacks, told doings. */
public final class HoursEdgesTest {
    private static final Check check = new Check("HoursEdgesTest");
    private static final int UNKNOWN = LeanLane.UNKNOWN;
    private static final int OUTSIDE = LeanLane.OUTSIDE;
    private static final int STATE = LeanLane.STATE;
    private static final int NONE = LeanLane.NONE;

    /** Each passes on all that comes, so what is brought into 0 is in 5 in the sixth hour, and then one more is too much. */
    private static final String SLOW = "AH131rH131rH131rH131rH131rH231m";

    public static void main(String[] args) {
        nothingIsChanged();
        laterHours();
        laterRefused();
        standing();
        falls();
        fallsRefused();
        rings();
        ordersOfSome();
        ordersThatCanBe();
        ordersFirst();
        ordersRefused();
        piano();
        pianoHours();
        pianoRefused();
        sacksFromHouses();
        sacksOfLikeOnes();
        sacksHours();
        sacksRefused();
        check.end();
    }

    private static void nothingIsChanged() {
        check.words("In what follows nothing is changed.");
        Check.Call[] questions = {
            l -> l.later(1, 30, 0), l -> l.standing(30), l -> l.falls(0), l -> l.rings(),
            l -> l.orders(4, 1119001402111L, 0), l -> l.orders(2, 1111, 1), l -> l.piano(9), l -> l.sacks(0), l -> l.sacks(1),
            l -> l.judge(4, 1009400430000000L), l -> l.judge(2, 9999L),
        };
        for (int i = 0; i < questions.length; i++) {
            check.unchanged("question " + i, States::busy, questions[i], Whole.ASPECTS);
            check.unchanged("question " + i + ", heaped", States::heaped, questions[i], Whole.ASPECTS);
        }
    }

    private static void laterHours() {
        check.words("IN n HOURS (0 to 30), nothing else being done: LOAD of a HOUSE; GROUND");
        LeanLane ring = Check.made("AH199rH199l");
        for (int n = 0; n <= 30; n++) {
            check.due("later(0, " + n + ", 0)", ring.later(0, n, 0), 9 + 6 * n);
            check.due("later(1, " + n + ", 1)", ring.later(1, n, 1), 3);
        }
        LeanLane brought = Check.heaped("AH049m", 0, 9);
        check.due("in no hours nothing has come", brought.later(0, 0, 0), 4);
        check.due("in one it has", brought.later(0, 1, 0), 13);
        check.due("its ground", brought.later(0, 1, 1), 7);
        check.due("a fallen one", States.busy().later(2, 0, 0), 0);
        check.due("an unbuilt one", States.busy().later(4, 30, 1), 0);
        check.due("one that falls", Check.made("AH292m").later(0, 0, 0), 9);
        check.due("one that has fallen then", Check.made("AH292m").later(0, 1, 0), 0);
    }

    private static void laterRefused() {
        check.words("UNKNOWN; OUTSIDE: n, what.");
        for (int house : Check.outside(0, 4)) {
            check.refused("later(" + house + ", 0, 0)", States::busy, l -> l.later(house, 0, 0), UNKNOWN);
            check.refused("later(" + house + ", 31, 0)", States::busy, l -> l.later(house, 31, 0), UNKNOWN);
            check.refused("later(" + house + ", 0, 2)", States::busy, l -> l.later(house, 0, 2), UNKNOWN);
        }
        for (int n : Check.outside(0, 30)) {
            check.refused("later(0, " + n + ", 0)", States::busy, l -> l.later(0, n, 0), OUTSIDE);
            check.refused("later(4, " + n + ", 1)", States::busy, l -> l.later(4, n, 1), OUTSIDE);
        }
        for (int what : Check.outside(0, 1)) {
            check.refused("later(0, 0, " + what + ")", States::busy, l -> l.later(0, 0, what), OUTSIDE);
            check.refused("later(0, 30, " + what + ")", States::busy, l -> l.later(0, 30, what), OUTSIDE);
        }
    }

    private static void standing() {
        check.words("IN n HOURS: which stand, as bits. OUTSIDE.");
        // One more falls in each hour, from the last to the first.
        LeanLane lane = Check.made("AH009rH009rH009rH009rH009rH290m");
        int[] bits = {63, 31, 15, 7, 3, 1, 0, 0};
        for (int n = 0; n < bits.length; n++) {
            check.due("standing(" + n + ")", lane.standing(n), bits[n]);
        }
        check.due("standing(29)", lane.standing(29), 0);
        check.due("standing(30)", lane.standing(30), 0);
        check.due("all stand", Check.made("AH009mH009mH009mH009mH009mH009m").standing(30), 63);
        check.due("the unbuilt one does not", Check.made("AH009mH409mH009m").standing(0), 5);
        for (int n : Check.outside(0, 30)) {
            check.refused("standing(" + n + ")", States::busy, l -> l.standing(n), OUTSIDE);
            check.refused("standing(" + n + ") of none", LeanLane::new, l -> l.standing(n), OUTSIDE);
        }
    }

    private static void falls() {
        check.words("FALLS of a HOUSE: in how many HOURS (1 to 30) it falls; NONE.");
        LeanLane lane = Check.made("AH009rH009rH009rH009rH009rH290m");
        for (int house = 0; house < 6; house++) {
            check.due("falls(" + house + ")", lane.falls(house), 6 - house);
        }
        check.due("it never falls", Check.made("AH009m").falls(0), NONE);
        // No lane can take longer than some 25 hours; of all that were tried 19 was the most.
        LeanLane long19 = Check.made("AH198rH181rH187rH163rH158rH348l");
        check.due("the slowest", long19.falls(0), 19);
        check.due("in 18 hours it stands", long19.standing(18) & 1, 1);
        check.due("in 19 hours it does not", long19.standing(19) & 1, 0);
        check.due("a ring that grows for ever does not fall", Check.made("AH199rH199l").falls(0), NONE);
    }

    private static void fallsRefused() {
        check.words("FALLS; NONE. UNKNOWN; STATE: it does not stand.");
        for (int house : Check.outside(0, 4)) {
            check.refused("falls(" + house + ")", States::busy, l -> l.falls(house), UNKNOWN);
        }
        check.refused("falls(2), fallen", States::busy, l -> l.falls(2), STATE);
        check.refused("falls(4), unbuilt", States::busy, l -> l.falls(4), STATE);
        check.due("falls(3), it stands", States.busy().falls(3), NONE);
    }

    private static void rings() {
        check.words("RINGS: HOUSES (bits) that LEAN on one that LEANS on them.");
        check.due("of none", new LeanLane().rings(), 0);
        check.due("one alone, l", Check.made("AH009l").rings(), 0);
        check.due("one alone, r", Check.made("AH009r").rings(), 0);
        for (int at = 0; at <= 4; at++) {
            StringBuilder text = new StringBuilder("A");
            for (int house = 0; house < 6; house++) {
                text.append(house == at ? "H009r" : house == at + 1 ? "H009l" : "H009m");
            }
            check.due("rings() of " + text, Check.made(text.toString()).rings(), 3 << at);
        }
        check.due("three of them", Check.made("AH009rH009lH009rH009lH009rH009l").rings(), 63);
        check.due("all to the right", Check.made("AH009rH009rH009rH009r").rings(), 0);
        check.due("all to the left", Check.made("AH009lH009lH009lH009l").rings(), 0);
        check.due("away from one another", Check.made("AH009lH009r").rings(), 0);
        check.due("the first and the last are no neighbours", Check.made("AH009lH009mH009mH009mH009mH009r").rings(), 0);
        // A third one that leans on a ring is not of it.
        check.due("one leans on a ring", Check.made("AH009rH009lH009l").rings(), 3);
        check.due("one leans on a ring", Check.made("AH009rH009rH009l").rings(), 6);
        LeanLane lane = Check.made("AH009rH009m");
        lane.deed(1, 0);
        check.due("by a new deed", lane.rings(), 3);
        lane.undo();
        check.due("it is undone", lane.rings(), 0);
    }

    private static void orders(String text, int n, long row, int many, int first) {
        LeanLane lane = Check.made(text);
        check.due("orders(" + n + ", " + row + ", 0) of " + text, lane.orders(n, row, 0), many);
        check.due("orders(" + n + ", " + row + ", 1) of " + text, lane.orders(n, row, 1), first);
    }

    private static void ordersOfSome() {
        check.words("ORDERS of some moves (1 to 4; each three figures: a HOUSE, 0 BROUGHT or 1 TAKEN, so many STONES)");
        String six = "AH199mH199mH199mH199mH199mH199m";
        orders(six, 1, 501, 1, 1);
        orders(six, 2, 501519, 2, 12);
        orders(six, 3, 501519019, 6, 123);
        orders(six, 4, 501519019001L, 24, 1234);
        // The first figures may be zeros: house 0.
        orders(six, 1, 1, 1, 1);
        orders(six, 4, 1001001001L, 24, 1234);
        orders(six, 4, 599599599599L, OUTSIDE, OUTSIDE);
        orders(six, 4, 519519519519L, 0, NONE);
    }

    private static void ordersThatCanBe() {
        check.words("one is done, then there is AN HOUR, the next one, an HOUR, and so on: in how many orders each can be done, "
                + "and nothing falls");
        // Holy, of strength 1: 3 stones at most; 2 are there.
        orders("AH221m", 1, 1, 1, 1);
        orders("AH221m", 1, 2, 0, NONE);
        orders("AH221m", 1, 12, 1, 1);
        orders("AH221m", 1, 13, 0, NONE);
        orders("AH221m", 2, 2011, 1, 21);
        orders("AH221m", 2, 1013, 1, 12);
        // What falls without a move, and in the hour behind the last one.
        orders("AH221mH009r", 1, 1, 0, NONE);
        orders("AH221mH290m", 1, 1, 0, NONE);
        orders("AH221mH241m", 1, 111, 1, 1);
        // 99 at most.
        LeanLane full = Check.heaped("AH199m", 0, 90);
        check.due("99 and 1", full.orders(1, 1, 0), 0);
        check.due("99 less 1, and 1", full.orders(2, 11001, 0), 1);
        check.due("99 less 1, and 1, the first", full.orders(2, 1011, 1), 21);
        LeanLane room = Check.heaped("AH199m", 0, 89);
        check.due("98 and 1", room.orders(1, 1, 0), 1);
        check.due("98 and 2", room.orders(1, 2, 0), 0);
        // The hour between two moves counts: 1 is brought on and falls off again, but in the hour it is too much.
        orders("AH231m", 2, 1011, 1, 21);
        // A house that does not stand can be moved into and out of.
        orders("AH439m", 2, 1014, 1, 12);
    }

    private static void ordersFirst() {
        check.words("the first one (figures 1 to 4, the least number); NONE");
        // 9 at most, 1 is there: 8 are brought, 9 taken, 7 brought, 6 taken, and not otherwise.
        orders("AH213m", 4, 16007019008L, 1, 4321);
        orders("AH213m", 4, 8019007016L, 1, 1234);
        orders("AH213m", 4, 7008016019L, 1, 2413);
        // 3 at most, 3 are there: the taken one is first, the other two as one likes.
        orders("AH231mH009m", 3, 1011101L, 3, 213);
    }

    private static void ordersRefused() {
        check.words("OUTSIDE: n (1 to 4), row (0 or more, 3 n figures at most; HOUSES that there are, 0 or 1, 1 to 9), what.");
        for (int n : Check.outside(1, 4)) {
            check.refused("n " + n, States::busy, l -> l.orders(n, 11, 0), OUTSIDE);
            check.refused("n " + n + ", no figures", States::busy, l -> l.orders(n, 0, 0), OUTSIDE);
        }
        check.refused("n 5, five moves", States::busy, l -> l.orders(5, 11011011011011L, 0), OUTSIDE);
        long[] rows = {
            -1, -11, 0, 10, 1011, 2_000_011L, Long.MIN_VALUE, Long.MAX_VALUE, 511, 911, 21, 91, 20,
        };
        for (long row : rows) {
            check.refused("one move, row " + row, States::busy, l -> l.orders(1, row, 0), OUTSIDE);
            check.refused("one move, row " + row, States::busy, l -> l.orders(1, row, 1), OUTSIDE);
        }
        check.due("house 4, the last one", States.busy().orders(1, 401, 0), 1);
        check.due("1 stone", States.busy().orders(1, 11, 0), 1);
        check.due("9 stones", States.busy().orders(1, 9, 0), 1);
        // Each move is looked at, the first and the last.
        check.refused("the last of four", States::busy, l -> l.orders(4, 11011011511L, 0), OUTSIDE);
        check.refused("the last of four", States::busy, l -> l.orders(4, 11011011021L, 0), OUTSIDE);
        check.refused("the last of four", States::busy, l -> l.orders(4, 11011011010L, 0), OUTSIDE);
        check.refused("the first of four", States::busy, l -> l.orders(4, 511011011011L, 0), OUTSIDE);
        check.refused("the first of four", States::busy, l -> l.orders(4, 21011011011L, 0), OUTSIDE);
        check.refused("the first of four", States::busy, l -> l.orders(4, 10011011011L, 0), OUTSIDE);
        check.refused("three moves told as four", States::busy, l -> l.orders(4, 11011011L, 0), OUTSIDE);
        check.refused("13 figures", States::busy, l -> l.orders(4, 1_011011011011L, 0), OUTSIDE);
        check.refused("10 figures for three", States::busy, l -> l.orders(3, 1_011011011L, 0), OUTSIDE);
        check.refused("7 figures for two", States::busy, l -> l.orders(2, 1_011011L, 0), OUTSIDE);
        check.due("12 figures", States.busy().orders(4, 411311111101L, 0), 24);
        check.due("9 figures", States.busy().orders(3, 411311111L, 0), 6);
        check.due("6 figures", States.busy().orders(2, 411311L, 0), 2);
        for (int what : Check.outside(0, 1)) {
            check.refused("what " + what, States::busy, l -> l.orders(1, 11, what), OUTSIDE);
        }
    }

    private static void piano() {
        check.words("PIANO of p STONES (1 to 9): HOUSES (bits) that stand into which it can be BROUGHT now");
        // Holy ones with room for 0, 1, 8 and 9.
        LeanLane lane = Check.made("AH231mH221mH213mH203m");
        check.due("piano(1)", lane.piano(1), 14);
        check.due("piano(2)", lane.piano(2), 12);
        check.due("piano(8)", lane.piano(8), 12);
        check.due("piano(9)", lane.piano(9), 8);
        check.due("all six", Check.made("AH209mH209mH209mH209mH209mH209m").piano(9), 63);
        check.due("not into the unbuilt one", Check.made("AH209mH409m").piano(1), 1);
        LeanLane fallen = Check.made("AH209mH290m");
        fallen.hour();
        check.due("not into the fallen one", fallen.piano(1), 1);
        LeanLane full = Check.heaped("AH199mH209m", 0, 90);
        check.due("99 there are", full.piano(1), 2);
        full.take(0, 1);
        check.due("98 there are, piano(1)", full.piano(1), 3);
        check.due("98 there are, piano(2)", full.piano(2), 2);
        full.take(0, 8);
        check.due("90 there are, piano(9)", full.piano(9), 3);
    }

    private static void pianoHours() {
        check.words("so that nothing falls in 6 HOURS");
        check.due("what is brought into 0 falls in the sixth", Check.made(SLOW).piano(1), 0);
        check.due("in five hours nothing has", Check.heaped(SLOW, 0, 1).standing(5), 63);
        check.due("in six it has", Check.heaped(SLOW, 0, 1).standing(6), 31);
        // Brought into 0, it makes 1 fall in the seventh hour alone.
        check.due("in six hours nothing has", Check.heaped("AH375rH192l", 0, 4).standing(6), 3);
        check.due("in seven it has", Check.heaped("AH375rH192l", 0, 4).standing(7), 2);
        check.due("it may stand in 0", Check.made("AH375rH192l").piano(4) & 1, 1);
        check.due("what falls in any case", Check.made("AH209mH009r").piano(1), 0);
        check.due("what falls in any case, in the sixth", Check.heaped(SLOW, 0, 1).piano(9), 0);
    }

    private static void pianoRefused() {
        check.words("PIANO, as bits. OUTSIDE.");
        for (int p : Check.outside(1, 9)) {
            check.refused("piano(" + p + ")", States::busy, l -> l.piano(p), OUTSIDE);
            check.refused("piano(" + p + ") of none", LeanLane::new, l -> l.piano(p), OUTSIDE);
        }
    }

    private static void sacks(LeanLane lane, String what, int many, int from) {
        check.due("sacks(0), " + what, lane.sacks(0), many);
        check.due("sacks(1), " + what, lane.sacks(1), from);
    }

    private static void sacksFromHouses() {
        check.words("(any of each, 0 to 9, as many as are there)");
        // Holy ones: 9 at most; 18 less 9 stand, 19 less 9 do not.
        sacks(Check.heaped("AH293m", 0, 1), "10 on 9", 1, 0);
        sacks(Check.heaped("AH293m", 0, 9), "18 on 9", 9, 0);
        sacks(Check.heaped("AH293m", 0, 10), "19 on 9", NONE, NONE);
        LeanLane two = Check.heaped("AH293mH293m", 0, 9);
        Check.heap(two, 1, 9);
        sacks(two, "18 and 18 on 9", 18, 1);
        two.bring(1, 1);
        sacks(two, "18 and 19 on 9", NONE, NONE);
        sacks(Check.made("AH210mH019m"), "the only one that is there", 1, 0);
        // 1 has a stone alone, and 9 that its load still shows: they come to 0 whatever is taken.
        LeanLane few = Check.made("AH201mH199l");
        few.take(1, 8);
        sacks(few, "as many as are there", NONE, NONE);
        sacks(Check.heaped("AH200mH109l", 1, 4), "one of four", 1, 11);
        sacks(Check.made("AH190mH009m"), "all 9 of a hollow one", 9, 0);
        check.words("from one HOUSE alone or from two");
        sacks(Check.made("AH231mH241mH241m"), "two", 2, 12);
        sacks(Check.made("AH241mH231mH241m"), "two, one between them", 2, 2);
        sacks(Check.made("AH241mH241mH241m"), "three", NONE, NONE);
        // Stones of one that does not stand weigh nothing.
        sacks(Check.made("AH290mH499m"), "beside an unbuilt one", 9, 0);
        check.words("none: 0");
        sacks(Check.made("AH231m"), "nothing falls", 0, 0);
        sacks(new LeanLane(), "no houses", 0, 0);
        check.words("NONE");
        sacks(Check.made("AH009l"), "nothing to lean on", NONE, NONE);
    }

    private static void sacksOfLikeOnes() {
        check.words("(10 times the one and the other, the lesser one first; one alone: that one and itself; of like ones the least");
        sacks(Check.made("AH209mH209mH209mH209mH209mH241m"), "5 alone", 1, 55);
        sacks(Check.made("AH209mH209mH209mH209mH241mH241m"), "4 and 5", 2, 45);
        sacks(Check.made("AH241mH209mH209mH209mH209mH241m"), "0 and 5", 2, 5);
        // 1 bears 6; 0 and 2 pass on to it what they have above 3.
        sacks(bothSides(4, 1, 7), "6 in 1", 0, 0);
        sacks(bothSides(4, 2, 7), "7 in 1, one less from any of them", 1, 0);
        sacks(bothSides(3, 3, 7), "7 in 1, one less from 1 or from 2", 1, 11);
        sacks(bothSides(4, 3, 7), "8 in 1, from 0 and 1, 0 and 2, 1, 1 and 2, or 2", 2, 1);
        sacks(bothSides(3, 4, 7), "8 in 1, from 1, 1 and 2, or 2", 2, 11);
        sacks(bothSides(4, 5, 7), "10 in 1", 4, 1);
    }

    /** Stones that no load shows yet, so that what is taken of any of them is taken in time. */
    private static LeanLane bothSides(int left, int middle, int right) {
        LeanLane lane = Check.made("AH109rH202mH109l");
        Check.heap(lane, 0, left);
        Check.heap(lane, 1, middle);
        Check.heap(lane, 2, right);
        return lane;
    }

    private static void sacksHours() {
        check.words("so that nothing falls in 6 HOURS, from one HOUSE alone");
        sacks(Check.heaped(SLOW, 0, 1), "it falls in the sixth", 1, 0);
        sacks(Check.made("AH372rH132l"), "it falls in the sixth", 1, 0);
        check.due("in five hours nothing has", Check.made("AH372rH132l").standing(5), 3);
        check.isTrue("in six it has", Check.made("AH372rH132l").standing(6) != 3);
        sacks(Check.made("AH182rH022l"), "it falls in the seventh", 0, 0);
        check.due("in six hours nothing has", Check.made("AH182rH022l").standing(6), 3);
        check.isTrue("in seven it has", Check.made("AH182rH022l").standing(7) != 3);
    }

    private static void sacksRefused() {
        check.words("SACKS: how many (what = 0), from which (1); NONE. OUTSIDE.");
        for (int what : Check.outside(0, 1)) {
            check.refused("sacks(" + what + ")", States::busy, l -> l.sacks(what), OUTSIDE);
            check.refused("sacks(" + what + "), heaped", States::heaped, l -> l.sacks(what), OUTSIDE);
            check.refused("sacks(" + what + ") of none", LeanLane::new, l -> l.sacks(what), OUTSIDE);
        }
    }
}
