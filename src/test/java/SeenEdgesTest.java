/** The edges of promises 21 to 23: what is seen, and who brought what by night. */
public final class SeenEdgesTest {
    private static final Check check = new Check("SeenEdgesTest");
    private static final int OUTSIDE = LeanLane.OUTSIDE;
    private static final int STATE = LeanLane.STATE;
    private static final int FULL = LeanLane.FULL;
    private static final int NONE = LeanLane.NONE;

    public static void main(String[] args) {
        seeNumbers();
        seeFull();
        unsee();
        nightHours();
        nightStones();
        nightStood();
        nightHouses();
        nightOfNothingSeen();
        nightRefused();
        check.end();
    }

    private static void seeNumbers() {
        check.words("SEEN: how many there are. OUTSIDE: h, house (0 to 5), stood (0, 1)");
        check.due("see(1, 0, 0)", new LeanLane().see(1, 0, 0), 1);
        check.due("see(9, 5, 1), there is no such house", new LeanLane().see(9, 5, 1), 1);
        for (int h : Check.outside(1, 9)) {
            check.refused("see(" + h + ", 0, 0)", States::busy, l -> l.see(h, 0, 0), OUTSIDE);
        }
        for (int house : Check.outside(0, 5)) {
            check.refused("see(1, " + house + ", 0)", States::busy, l -> l.see(1, house, 0), OUTSIDE);
        }
        for (int stood : Check.outside(0, 1)) {
            check.refused("see(1, 0, " + stood + ")", States::busy, l -> l.see(1, 0, stood), OUTSIDE);
            check.refused("see(9, 5, " + stood + ")", States::busy, l -> l.see(9, 5, stood), OUTSIDE);
        }
        check.unchanged("see()", States::busy, l -> l.see(1, 0, 0), Whole.ALL_BUT_SEEN);
    }

    private static void seeFull() {
        check.words("6 such at most, none at first");
        LeanLane lane = new LeanLane();
        check.due("none at first", lane.count(8), 0);
        for (int many = 1; many <= 6; many++) {
            check.due("see(), " + many, lane.see(many, many - 1, 1), many);
            check.due("count(8)", lane.count(8), many);
        }
        check.words("FULL: 6");
        check.due("see(), the seventh", lane.see(1, 0, 1), FULL);
        check.due("count(8)", lane.count(8), 6);
        check.refused("see(1, 0, 0), six are seen", States::fullSeen, l -> l.see(1, 0, 0), FULL);
        check.refused("see(9, 5, 1), six are seen", States::fullSeen, l -> l.see(9, 5, 1), FULL);
        check.refused("see(0, 0, 0), six are seen", States::fullSeen, l -> l.see(0, 0, 0), OUTSIDE);
        check.refused("see(1, 6, 0), six are seen", States::fullSeen, l -> l.see(1, 6, 0), OUTSIDE);
        check.refused("see(1, 0, 2), six are seen", States::fullSeen, l -> l.see(1, 0, 2), OUTSIDE);
        LeanLane same = new LeanLane();
        for (int many = 1; many <= 6; many++) {
            check.due("what is seen again is one more", same.see(1, 0, 1), many);
        }
    }

    private static void unsee() {
        check.words("Nothing is SEEN: how much there was.");
        check.due("unsee() of none", new LeanLane().unsee(), 0);
        LeanLane one = new LeanLane();
        one.see(1, 0, 0);
        check.due("unsee() of one", one.unsee(), 1);
        LeanLane six = States.fullSeen();
        check.due("unsee() of six", six.unsee(), 6);
        check.due("count(8)", six.count(8), 0);
        check.due("unsee() again", six.unsee(), 0);
        check.due("night(0), nothing is seen", six.night(0), 45);
        check.due("see(), room again", six.see(1, 0, 0), 1);
        check.unchanged("unsee()", States::busy, LeanLane::unsee, Whole.ALL_BUT_SEEN);
    }

    private static void nights(LeanLane lane, String what, int many, int first) {
        check.due("night(0), " + what, lane.night(0), many);
        check.due("night(1), " + what, lane.night(1), first);
    }

    private static void nightHours() {
        check.words("that behind h (1 to 9) HOURS from now on a HOUSE stood (1), or did not (0)");
        // One stone more in 2, 3, 4 or 5 is too much for 5 in hour 4, 3, 2 or 1; then one falls in each hour, 0 the last.
        String slow = "AH009rH009rH131rH131rH131rH231m";
        for (int h = 1; h <= 9; h++) {
            LeanLane lane = Check.made(slow);
            lane.see(h, 0, 0);
            // Brought into 5, 0 falls in hour 6; into 4 in hour 7, into 3 in hour 8, into 2 in hour 9.
            int many = h < 6 ? 0 : 9 * (h - 5);
            nights(lane, "0 lay behind " + h, many, h < 6 ? NONE : 10 * (11 - h) + 1);
            lane.unsee();
            lane.see(h, 0, 1);
            nights(lane, "0 stood behind " + h, 54 - many, 1);
        }
        LeanLane last = Check.made(slow);
        last.see(8, 0, 1);
        last.see(9, 0, 0);
        nights(last, "it fell in the ninth", 9, 21);
        LeanLane first = Check.made(slow);
        first.see(1, 5, 0);
        nights(first, "5 fell in the first", 9, 51);
        first.unsee();
        first.see(1, 5, 1);
        first.see(2, 5, 0);
        nights(first, "5 fell in the second", 9, 41);
        // From now on: an hour that has passed is not asked about any more.
        last.hour();
        nights(last, "an hour later", 9, 21);
    }

    private static void nightStones() {
        check.words("NIGHT: HOUSES and STONES (1 to 9)");
        for (int stones = 0; stones <= 9; stones++) {
            // Holy, 9 at most: so many of 1 to 9 are too much.
            LeanLane lane = Check.made("AH2" + stones + "3m");
            lane.see(1, 0, 0);
            nights(lane, stones + " are there", stones, stones == 0 ? NONE : 10 - stones);
            lane.unsee();
            lane.see(1, 0, 1);
            nights(lane, stones + " are there, and it stood", 9 - stones, stones == 9 ? NONE : 1);
        }
        check.words("BROUGHT: 1 to 9 STONES more in a HOUSE (99 at most)");
        nights(Check.heaped("AH199m", 0, 81), "90 there are", 9, 1);
        nights(Check.heaped("AH199m", 0, 82), "91 there are", 8, 1);
        nights(Check.heaped("AH199m", 0, 89), "98 there are", 1, 1);
        nights(Check.heaped("AH199m", 0, 90), "99 there are", 0, NONE);
        nights(Check.heaped("AH199mH009m", 0, 90), "99 there are, and room beside", 9, 11);
    }

    private static void nightStood() {
        check.words("by which all that is SEEN is so, by THE LANE as it is now");
        LeanLane lane = Check.made("AH231mH231m");
        lane.see(1, 0, 0);
        nights(lane, "0 lay", 9, 1);
        lane.see(1, 1, 1);
        nights(lane, "and 1 stood", 9, 1);
        lane.see(2, 1, 0);
        nights(lane, "and 1 lay behind the next", 0, NONE);
        lane.unsee();
        lane.see(1, 0, 0);
        lane.see(1, 0, 1);
        nights(lane, "it stood and lay", 0, NONE);
        LeanLane six = Check.made("AH231mH231m");
        for (int h = 1; h <= 5; h++) {
            six.see(h, 0, 0);
        }
        nights(six, "five that agree", 9, 1);
        six.see(9, 1, 0);
        nights(six, "and the sixth does not", 0, NONE);
        LeanLane now = Check.made("AH231mH241m");
        now.see(1, 1, 1);
        nights(now, "1 falls of itself", 0, NONE);
        now.take(1, 1);
        nights(now, "one is taken", 9, 1);
        now.take(1, 1);
        nights(now, "two are taken", 10, 1);
        now.undo();
        now.undo();
        nights(now, "both are undone", 0, NONE);
    }

    private static void nightHouses() {
        check.words("STONES having been BROUGHT into one HOUSE ahead of these by night");
        LeanLane gone = Check.made("AH231m");
        gone.see(1, 1, 0);
        nights(gone, "a house that is not there did not stand", 9, 1);
        gone.see(1, 5, 0);
        nights(gone, "a house that is not there did not stand", 9, 1);
        gone.see(1, 1, 1);
        nights(gone, "a house that is not there stood", 0, NONE);
        LeanLane unbuilt = Check.made("AH431m");
        unbuilt.see(9, 0, 0);
        nights(unbuilt, "an unbuilt one did not stand", 9, 1);
        unbuilt.see(9, 0, 1);
        nights(unbuilt, "an unbuilt one stood", 0, NONE);
    }

    private static void nightOfNothingSeen() {
        check.words("how many; the first (10 times HOUSE and STONES); NONE");
        String text = "A";
        for (int houses = 0; houses <= 6; houses++) {
            nights(Check.made(text), "nothing is seen of " + houses, 9 * houses, houses == 0 ? NONE : 1);
            text += "H009m";
        }
        LeanLane last = Check.made("AH241mH241mH241mH241mH241mH203m");
        last.see(1, 5, 0);
        nights(last, "5 did not stand", 0, NONE);
        last.bring(5, 1);
        nights(last, "5 did not stand, 1 is there", 1, 59);
    }

    private static void nightRefused() {
        check.words("NIGHT: how many (what = 0), the first (1); NONE. OUTSIDE.");
        for (int what : Check.outside(0, 1)) {
            check.refused("night(" + what + ")", States::busy, l -> l.night(what), OUTSIDE);
            check.refused("night(" + what + "), six are seen", States::fullSeen, l -> l.night(what), OUTSIDE);
            check.refused("night(" + what + ") of none", LeanLane::new, l -> l.night(what), OUTSIDE);
        }
        check.unchanged("night(0)", States::busy, l -> l.night(0), Whole.ASPECTS);
        check.unchanged("night(1)", States::busy, l -> l.night(1), Whole.ASPECTS);
        check.words("none at first");
        LeanLane lane = new LeanLane();
        check.due("see() is no act", lane.see(1, 0, 0), 1);
        check.due("undo()", lane.undo(), STATE);
    }
}
