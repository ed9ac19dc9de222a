/** The edges of promises 1 to 6: a new object, the text, its fault, the lane, its houses. */
public final class LaneEdgesTest {
    private static final Check check = new Check("LaneEdgesTest");
    private static final int UNKNOWN = LeanLane.UNKNOWN;
    private static final int OUTSIDE = LeanLane.OUTSIDE;
    private static final int STATE = LeanLane.STATE;
    private static final int FULL = LeanLane.FULL;
    private static final int NONE = LeanLane.NONE;

    private static final String SIX = "AH000lH191rH259mH308lH492rH045m";

    public static void main(String[] args) {
        newObject();
        writeLetters();
        writeFull();
        wipe();
        faultOfEachLetter();
        faultWhateverComesBehind();
        faultAtTheEnd();
        faultOfLongTexts();
        laneOfAFault();
        laneOfWhatIsTold();
        laneForgets();
        laneKeeps();
        house();
        houseRefused();
        check.end();
    }

    private static void newObject() {
        check.words("No houses.");
        LeanLane lane = new LeanLane();
        for (int what = 0; what <= 8; what++) {
            check.due("count(" + what + ")", lane.count(what), 0);
        }
        check.due("house(0, 4)", lane.house(0, 4), UNKNOWN);
        check.due("seed(1)", lane.seed(1), 0);
        check.due("undo()", lane.undo(), STATE);
        check.due("again(0)", lane.again(0), STATE);
        check.due("again(1)", lane.again(1), STATE);
        LeanLane one = States.busy();
        check.due("another object has houses", one.count(1), 5);
        check.due("a new one has none", new LeanLane().count(1), 0);
    }

    private static void writeLetters() {
        check.words("A letter (0 to 255) comes behind THE TEXT: how long it is. OUTSIDE");
        check.due("write(0)", new LeanLane().write(0), 1);
        check.due("write(1)", new LeanLane().write(1), 1);
        check.due("write(254)", new LeanLane().write(254), 1);
        check.due("write(255)", new LeanLane().write(255), 1);
        for (int letter : Check.outside(0, 255)) {
            check.refused("write(" + letter + ")", States::busy, l -> l.write(letter), OUTSIDE);
            check.refused("write(" + letter + "), a lane told", States::busyWithLane, l -> l.write(letter), OUTSIDE);
            check.refused("write(" + letter + "), at first", LeanLane::new, l -> l.write(letter), OUTSIDE);
        }
        // Letters that would be an A, if their upper bits were cut.
        check.refused("write('A' + 256)", LeanLane::new, l -> l.write('A' + 256), OUTSIDE);
        check.refused("write('A' + 65536)", LeanLane::new, l -> l.write('A' + 65536), OUTSIDE);
        check.due("'A' + 128 is another letter", Check.told("" + (char) ('A' + 128)).fault(), 0);
        check.unchanged("write()", States::busy, l -> l.write('4'), Whole.ALL_BUT_TEXT);
    }

    private static void writeFull() {
        check.words("THE TEXT is letters (64 at most)");
        LeanLane lane = new LeanLane();
        for (int length = 1; length <= 64; length++) {
            check.due("write, letter " + length, lane.write(length % 256), length);
        }
        check.words("FULL: there are 64");
        check.due("write, letter 65", lane.write('A'), FULL);
        check.due("count(0)", lane.count(0), 64);
        check.refused("write(0), 64 letters", States::fullText, l -> l.write(0), FULL);
        check.refused("write(255), 64 letters", States::fullText, l -> l.write(255), FULL);
        check.due("wipe(), 64 letters", lane.wipe(), 64);
        check.due("write, room again", lane.write('A'), 1);
    }

    private static void wipe() {
        check.words("THE TEXT is empty: how long it was.");
        check.due("wipe() of none", new LeanLane().wipe(), 0);
        check.due("wipe() of one", Check.told("x").wipe(), 1);
        check.due("wipe() of 63", Check.told("A".repeat(63)).wipe(), 63);
        check.due("wipe() of 64", Check.told("A".repeat(64)).wipe(), 64);
        LeanLane lane = Check.told("A".repeat(64));
        lane.wipe();
        check.due("count(0) behind it", lane.count(0), 0);
        check.due("fault() behind it", lane.fault(), 0);
        check.due("wipe() again", lane.wipe(), 0);
        check.unchanged("wipe()", States::busy, LeanLane::wipe, Whole.ALL_BUT_TEXT);
    }

    /** The letters that may stand at a place of a lane. */
    private static String allowed(int place) {
        if (place == 0) {
            return "A";
        }
        return switch (place % 5) {
            case 1 -> place < 31 ? "H" : "";
            case 2 -> "01234";
            case 0 -> "lrm";
            default -> "0123456789";
        };
    }

    private static int faultBehind(String start, char letter) {
        int place = start.length();
        if (allowed(place).indexOf(letter) < 0) {
            return place;
        }
        return place % 5 == 0 ? NONE : place + 1;
    }

    private static void faultOfEachLetter() {
        check.words("FAULT: the place of the first letter by which THE TEXT can be no LANE");
        for (int place = 0; place <= 31; place++) {
            String start = SIX.substring(0, place);
            for (char letter = 0; letter <= 255; letter++) {
                LeanLane lane = Check.told(start + letter);
                check.due("fault() of " + start + " and letter " + (int) letter, lane.fault(), faultBehind(start, letter));
            }
        }
    }

    private static void faultWhateverComesBehind() {
        check.words("whatever came behind it");
        for (int place = 0; place < SIX.length(); place++) {
            String broken = SIX.substring(0, place) + '!' + SIX.substring(place + 1);
            check.due("fault() of " + broken, Check.told(broken).fault(), place);
            check.due("lane() of " + broken, Check.told(broken).lane(), STATE);
            // Of two faults the first one is told.
            String twice = broken.substring(0, 30) + '?';
            check.due("fault() of " + twice, Check.told(twice).fault(), Math.min(place, 30));
        }
    }

    private static void faultAtTheEnd() {
        check.words("its length, if it is only not at its end; NONE: none");
        for (int length = 0; length <= 31; length++) {
            boolean whole = length % 5 == 1;
            LeanLane lane = Check.told(SIX.substring(0, length));
            check.due("fault() of " + length + " letters", lane.fault(), whole ? NONE : length);
            check.due("lane() of " + length + " letters", lane.lane(), whole ? length / 5 : STATE);
        }
    }

    private static void faultOfLongTexts() {
        check.words("(its length set aside)");
        String more = "H000m".repeat(7);
        for (int length = 32; length <= 64; length++) {
            String text = (SIX + more).substring(0, length);
            check.due("fault() of " + length + " letters", Check.told(text).fault(), 31);
            check.due("lane() of " + length + " letters", Check.told(text).lane(), STATE);
        }
        String other = "A" + "x".repeat(63);
        check.due("fault() of 64 letters, the second one", Check.told(other).fault(), 1);
        check.due("fault() of 64 letters, the first one", Check.told("x".repeat(64)).fault(), 0);
        // Letters that were refused are no fault.
        LeanLane lane = Check.told("AH000m");
        lane.write(256);
        check.due("fault() behind a refused letter", lane.fault(), NONE);
    }

    private static void laneOfAFault() {
        check.words("STATE: a FAULT.");
        check.refused("lane() of no text", LeanLane::new, LeanLane::lane, STATE);
        check.refused("lane() of a text that is not at its end", States::busy, LeanLane::lane, STATE);
        check.refused("lane() of 64 letters", States::fullText, LeanLane::lane, STATE);
        Check.Maker seventh = () -> {
            LeanLane lane = States.busy();
            Check.tell(lane, SIX + "H");
            return lane;
        };
        check.refused("lane() of a seventh house", seventh, LeanLane::lane, STATE);
    }

    private static void laneOfWhatIsTold() {
        check.words("Hkwsd    a HOUSE of KIND k (0 LEASED, 1 HOLLOW, 2 HOLY, 3 UPSIDE DOWN, 4 UNBUILT), with w STONES in it (0 to 9), "
                + "of STRENGTH s (0 to 9), that LEANS by its DEED d: l on the one ahead, r on the next one, m on the monk");
        for (int kind = 0; kind <= 4; kind++) {
            check.due("kind " + kind, Check.made("AH" + kind + "00m").house(0, 0), kind);
        }
        for (int figure = 0; figure <= 9; figure++) {
            check.due("stones " + figure, Check.made("AH0" + figure + "0m").house(0, 1), figure);
            check.due("strength " + figure, Check.made("AH00" + figure + "m").house(0, 2), figure);
        }
        for (int d = 0; d <= 2; d++) {
            check.due("deed " + d, Check.made("AH000" + "lrm".charAt(d)).house(0, 3), d);
        }
        for (String wrong : new String[] {"H/00m", "H500m", "H0/0m", "H0:0m", "H00/m", "H00:m", "H000k", "H000n", "H000q", "H000s"}) {
            check.due("lane() of A" + wrong, Check.told("A" + wrong).lane(), STATE);
        }
        check.words("THE TEXT is THE LANE");
        LeanLane lane = Check.made(SIX);
        check.due("the text stays", lane.count(0), 31);
        check.due("and has no fault", lane.fault(), NONE);
        check.due("lane() once more", lane.lane(), 6);
        lane.wipe();
        check.due("the lane stays without its text", lane.count(1), 6);
    }

    private static void laneForgets() {
        check.words("(THE ROW of ACTS is empty, what was kept is gone; SEEN, THE SEED stay)");
        LeanLane lane = States.busyWithLane();
        lane.keep(1);
        check.due("acts ahead of it", lane.count(7), 14);
        check.due("lane()", lane.lane(), 3);
        check.due("acts", lane.count(7), 0);
        check.due("undo()", lane.undo(), STATE);
        check.due("again(0)", lane.again(0), STATE);
        check.due("again(1)", lane.again(1), STATE);
        check.due("an act", lane.hour(), 0);
        check.due("undo() of it", lane.undo(), 0);
        check.due("undo() of no more", lane.undo(), STATE);
    }

    private static void laneKeeps() {
        check.unchanged("lane()", States::busyWithLane, LeanLane::lane, Whole.TEXT);
        LeanLane lane = States.busyWithLane();
        lane.lane();
        check.due("seen", lane.count(8), 3);
        check.due("the seed", lane.seed(0), 77);
        LeanLane seen = States.fullSeen();
        Check.tell(seen, "AH031mH031mH031mH031m");
        seen.lane();
        // 2 fell in the first hour, the others stood.
        check.due("night(0)", seen.night(0), 6);
        check.due("night(1)", seen.night(1), 24);
        check.due("six are seen", seen.unsee(), 6);
    }

    private static void house() {
        check.words("KIND (what = 0), STONES (1), STRENGTH (2), DEED (3: 0 l, 1 r, 2 m), 1 if it stands (4), LOAD (5), GIVES (6), "
                + "GROUND (7)");
        LeanLane lane = Check.made("AH378rH019l");
        int[] first = {3, 7, 8, 1, 1, 7, 4, 3};
        int[] last = {0, 1, 9, 0, 1, 1, 0, 1};
        for (int what = 0; what <= 7; what++) {
            check.due("house(0, " + what + ")", lane.house(0, what), first[what]);
            check.due("house(1, " + what + ")", lane.house(1, what), last[what]);
        }
        lane.hour();
        check.due("the load of 0, an hour later", lane.house(0, 5), 7);
        check.due("the load of 1, an hour later", lane.house(1, 5), 5);
        check.due("a fallen one", States.busy().house(2, 4), 0);
        check.due("an unbuilt one", States.busy().house(4, 4), 0);
        check.unchanged("house()", States::busy, l -> l.house(2, 5), Whole.ASPECTS);
    }

    private static void houseRefused() {
        check.words("UNKNOWN; OUTSIDE.");
        for (int house : Check.outside(0, 4)) {
            check.refused("house(" + house + ", 0)", States::busy, l -> l.house(house, 0), UNKNOWN);
            check.refused("house(" + house + ", 7)", States::busy, l -> l.house(house, 7), UNKNOWN);
            check.refused("house(" + house + ", 8)", States::busy, l -> l.house(house, 8), UNKNOWN);
        }
        for (int what : Check.outside(0, 7)) {
            check.refused("house(0, " + what + ")", States::busy, l -> l.house(0, what), OUTSIDE);
            check.refused("house(4, " + what + ")", States::busy, l -> l.house(4, what), OUTSIDE);
        }
        check.due("house(5, 0) of six", Check.made(SIX).house(5, 0), 0);
        check.due("house(6, 0) of six", Check.made(SIX).house(6, 0), UNKNOWN);
    }
}
