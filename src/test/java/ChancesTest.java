/** Promises 24 to 28: shares, rests, deeds that fail, the seed and its years. */
public final class ChancesTest {
    private static final Check check = new Check("ChancesTest");
    private static final int OUTSIDE = LeanLane.OUTSIDE;
    private static final long TIMES = 6364136223846793005L;
    private static final long MORE = 1442695040888963407L;

    public static void main(String[] args) {
        share();
        shareBelowNothing();
        rests();
        restsRefused();
        fails();
        failsHours();
        seed();
        years();
        yearsLots();
        yearsDeeds();
        nothingIsChanged();
        check.end();
    }

    private static void shareOf(String when, LeanLane lane, int house, int above, int below) {
        check.due("share(" + house + ", true), " + when, lane.share(house, true), above);
        check.due("share(" + house + ", false), " + when, lane.share(house, false), below);
    }

    private static void share() {
        shareOf("it falls of its own", Check.made("AH292m"), 0, 1, 1);
        shareOf("nothing falls", Check.made("AH293m"), 0, 0, 1);
        shareOf("it falls in any case", Check.made("AH009r"), 0, 0, 1);
        // 4 that house 0 gives now are too much for 1 with its stones, whether those of 0 come or not.
        LeanLane loads = Check.made("AH179rH232m");
        shareOf("loads stay", loads, 0, 0, 1);
        shareOf("loads stay", loads, 1, 2, 1);
        // 8 are too much for 1, which both neighbours bring about; all three fall.
        LeanLane three = Check.made("AH139rH212mH139l");
        three.bring(0, 4);
        three.bring(2, 4);
        shareOf("both sides", three, 0, 3, 2);
        shareOf("both sides", three, 1, 0, 1);
        shareOf("both sides", three, 2, 3, 2);
        LeanLane six = Check.made("AH292mH292mH292mH292mH292mH293m");
        for (int house = 0; house < 6; house++) {
            shareOf("each for itself", six, house, house < 5 ? 1 : 0, 1);
        }
        LeanLane unbuilt = Check.made("AH292mH499m");
        shareOf("beside an unbuilt one", unbuilt, 0, 1, 1);
        shareOf("the unbuilt one", unbuilt, 1, 0, 1);
        for (int house : new int[] {-1, 3, Integer.MIN_VALUE, Integer.MAX_VALUE}) {
            shareOf("no such house", three, house, LeanLane.UNKNOWN, LeanLane.UNKNOWN);
        }
        shareOf("of none", new LeanLane(), 0, LeanLane.UNKNOWN, LeanLane.UNKNOWN);
    }

    private static void shareBelowNothing() {
        // With its stones 1 falls first and 0, on which it leant, is spared, unless its own stones are there.
        LeanLane lane = Check.made("AH370mH031lH174l");
        shareOf("spared", lane, 1, -1, 2);
        shareOf("heavy", lane, 0, 1, 2);
        shareOf("light", lane, 2, 0, 1);
        shareOf("seven sixths", Check.made("AH031rH142lH354l"), 0, 7, 6);
    }

    private static void restsOf(String text, int one, int other, int many, int first) {
        LeanLane lane = Check.made(text);
        check.due("rests(" + one + ", " + other + ", 0) of " + text, lane.rests(one, other, 0), many);
        check.due("rests(" + one + ", " + other + ", 1) of " + text, lane.rests(one, other, 1), first);
    }

    private static void rests() {
        // Holy: 3 more less 2. Hollow: nothing more less 2. Leased with 2: 1 becomes 3, less 2.
        restsOf("AH209mH209m", 0, 1, 1, 11);
        restsOf("AH159mH209m", 0, 1, 1, 1);
        restsOf("AH209mH159m", 0, 1, 1, 10);
        restsOf("AH209mH159m", 1, 0, 1, 1);
        restsOf("AH159mH159m", 0, 1, 1, 0);
        restsOf("AH029mH029m", 0, 1, 4, 0);
        restsOf("AH029mH209m", 0, 1, 2, 1);
        restsOf("AH209mH029m", 0, 1, 2, 10);
        // Three more would make it fall, which costs 5 and all of its ground.
        restsOf("AH293mH209m", 0, 1, 1, 1);
        restsOf("AH041mH209m", 0, 1, 1, 1);
        // An unbuilt one has nothing but what it pays.
        restsOf("AH499mH209m", 0, 1, 1, 1);
        // Whatever one chooses, the other then chooses so that the first would rather have chosen otherwise.
        restsOf("AH442rH173mH340rH101rH015l", 3, 4, 0, LeanLane.NONE);
        restsOf("AH083mH114m", 0, 1, 4, 0);
    }

    private static void restsRefused() {
        LeanLane lane = Check.made("AH209mH209m");
        check.due("rests(2, 0, 0)", lane.rests(2, 0, 0), LeanLane.UNKNOWN);
        check.due("rests(0, 2, 0)", lane.rests(0, 2, 0), LeanLane.UNKNOWN);
        check.due("rests(-1, 0, 0)", lane.rests(-1, 0, 0), LeanLane.UNKNOWN);
        check.due("rests(0, -1, 5)", lane.rests(0, -1, 5), LeanLane.UNKNOWN);
        check.due("rests(2, 2, 0)", lane.rests(2, 2, 0), LeanLane.UNKNOWN);
        check.due("rests(1, 1, 0)", lane.rests(1, 1, 0), OUTSIDE);
        check.due("rests(0, 1, 2)", lane.rests(0, 1, 2), OUTSIDE);
        check.due("rests(0, 1, -1)", lane.rests(0, 1, -1), OUTSIDE);
    }

    private static void failsOf(String text, int v, int x, int above, int below) {
        LeanLane lane = Check.made(text);
        check.due("fails(" + v + ", " + x + ", true) of " + text, lane.fails(v, x, true), above);
        check.due("fails(" + v + ", " + x + ", false) of " + text, lane.fails(v, x, false), below);
    }

    private static void fails() {
        failsOf("AH009m", 1, 3, 7, 10);
        failsOf("AH009m", 0, 3, 1, 1);
        failsOf("AH009m", 2, 3, 0, 1);
        failsOf("AH009m", 1, 0, 1, 1);
        failsOf("AH009m", 1, 10, 0, 1);
        failsOf("AH209m", 1, 10, 1, 1);
        failsOf("AH009mH009m", 1, 5, 3, 4);
        failsOf("AH009mH009m", 2, 5, 1, 4);
        failsOf("AH009mH009m", 2, 4, 9, 25);
        failsOf("AH009rH009m", 2, 1, 81, 100);
        failsOf("AH009rH009m", 1, 1, 9, 10);
        failsOf("AH009mH409m", 1, 3, 7, 10);
        failsOf("AH009mH409m", 2, 3, 0, 1);
        // If its deed fails, its load does not come to 1 any more, and that is spared.
        failsOf("AH179rH232m", 1, 5, 1, 2);
        failsOf("AH009mH009mH009mH009mH009mH009m", 6, 1, 531441, 1000000);
        failsOf("A", 0, 5, 1, 1);
        failsOf("A", 1, 5, 0, 1);
        LeanLane lane = Check.made("AH009m");
        int[][] wrong = {{-1, 5}, {7, 5}, {0, -1}, {0, 11}, {Integer.MIN_VALUE, 0}, {0, Integer.MAX_VALUE}};
        for (int[] w : wrong) {
            check.due("fails(" + w[0] + ", " + w[1] + ", true)", lane.fails(w[0], w[1], true), OUTSIDE);
            check.due("fails(" + w[0] + ", " + w[1] + ", false)", lane.fails(w[0], w[1], false), OUTSIDE);
        }
        check.due("fails(6, 10, true)", lane.fails(6, 10, true), 0);
    }

    private static void failsHours() {
        // If the last fails, the first falls in the fourth hour: all lie only if one ahead of it fails too.
        failsOf("AH009rH009rH009rH009m", 4, 1, 6561, 10000);
        failsOf("AH009rH009rH009rH009m", 1, 1, 9729, 10000);
    }

    private static void seed() {
        LeanLane lane = new LeanLane();
        check.due("seed(5)", lane.seed(5), 0);
        check.due("seed(MIN)", lane.seed(Long.MIN_VALUE), 5);
        check.due("seed(MAX)", lane.seed(Long.MAX_VALUE), Long.MIN_VALUE);
        check.due("seed(0)", lane.seed(0), Long.MAX_VALUE);
        check.due("years(1) of 0", lane.years(1), 0);
        check.due("the seed behind it", lane.seed(1), MORE);
        check.due("years(2) of 1", lane.years(2), 0);
        check.due("the seed behind them", lane.seed(0), (TIMES + MORE) * TIMES + MORE);
    }

    /** A seed whose first lots are these. */
    private static long seedOf(int... lots) {
        long seed = 0;
        for (int tries = 0; tries < 100_000_000; tries++) {
            long x = ++seed;
            int hit = 0;
            for (int lot : lots) {
                x = x * TIMES + MORE;
                if ((x >>> 33) % 40 != lot) {
                    break;
                }
                hit++;
            }
            if (hit == lots.length) {
                return seed;
            }
        }
        throw new IllegalStateException("no such seed");
    }

    private static int yearsOf(String text, int... lots) {
        LeanLane lane = Check.made(text);
        lane.seed(seedOf(lots));
        String before = Check.picture(lane);
        int together = lane.years(lots.length);
        check.same("years()", before, lane);
        return together;
    }

    private static void years() {
        check.due("each year counts", yearsOf("AH009mH009m", 36, 37, 38), 6);
        check.due("two fall in the second", yearsOf("AH009rH290mH009m", 36, 39), 3 - 1 + 3 - 2);
        check.due("nothing but hours falls", yearsOf("AH292m", 0, 20, 12), 3);
        check.due("what is brought in one year is there in the next", yearsOf("AH051m", 0, 36, 0, 36), 3);
        LeanLane lane = Check.made("AH009m");
        for (int m : new int[] {0, 31, -1, Integer.MIN_VALUE, Integer.MAX_VALUE}) {
            check.due("years(" + m + ")", lane.years(m), OUTSIDE);
        }
        check.due("the seed, refused", lane.seed(3), 0);
        check.due("years(30) of none", new LeanLane().years(30), 0);
    }

    /** Six houses that no lot harms, but for one. */
    private static String six(int weak, String house) {
        StringBuilder text = new StringBuilder("A");
        for (int i = 0; i < 6; i++) {
            text.append(i == weak ? house : "H209m");
        }
        return text.toString();
    }

    private static void yearsLots() {
        for (int house = 0; house < 6; house++) {
            for (int lot = 0; lot < 40; lot++) {
                boolean brings = lot == 2 * house || lot == 2 * house + 1;
                boolean brings2 = lot == 2 * house + 1;
                boolean takes = lot == 12 + house;
                boolean leans = lot / 3 - 6 == house && lot >= 18 && lot < 36;
                int deed = lot % 3;
                String of = "lot " + lot + " of house " + house;
                int passes = lot >= 36 ? 1 : 0;
                // At the ends of the lane a deed can be one on nothing.
                boolean falls = leans && (deed == 0 && house == 0 || deed == 1 && house == 5);
                // With 6 one stone more is too much, with 5 two are, with 7 one is to be taken.
                check.due(of + ", 6 stones", yearsOf(six(house, "H061m"), lot, 36), brings || falls ? 11 : 12);
                check.due(of + ", 5 stones", yearsOf(six(house, "H051m"), lot, 36), brings2 || falls ? 11 : 12);
                check.due(of + ", 7 stones", yearsOf(six(house, "H071m"), lot, 36), takes ? 12 : 11 - passes);
                check.due(of + ", its deed", yearsOf(six(house, "H009m"), lot, 36), falls ? 11 : 12);
            }
        }
        // Which deed it is: the neighbour bears 3 more or does not.
        check.due("l", yearsOf("AH203mH179mH202m", 21, 36, 36), 9);
        check.due("l, on a weak one", yearsOf("AH220mH179mH202m", 21, 36, 36), 3 + 2 + 1);
        check.due("r", yearsOf("AH203mH179mH202m", 22, 36, 36), 9);
        check.due("r, on a weak one", yearsOf("AH203mH179mH200m", 22, 36, 36), 3 + 2 + 1);
        check.due("m", yearsOf("AH200mH179mH200m", 23, 36, 36), 9);
        check.due("one is taken, not two", yearsOf("AH081m", 12, 36), 1);
        check.due("taken from none", yearsOf("AH209m", 12, 36), 2);
    }

    /** A house leans on one ahead that is unbuilt or not there; only a deed of its own saves it. */
    private static void yearsDeeds() {
        for (int house = 0; house < 6; house++) {
            StringBuilder text = new StringBuilder("A");
            for (int i = 0; i < 6; i++) {
                text.append(i == house ? "H009l" : i == house - 1 ? "H409m" : "H209m");
            }
            int stand = house == 0 ? 6 : 5;
            for (int lot = 0; lot < 40; lot++) {
                boolean saved = lot == 18 + 3 * house + 2 || lot == 18 + 3 * house + 1 && house < 5;
                int due = saved ? 2 * stand : 2 * stand - 1 - (lot >= 36 ? 1 : 0);
                check.due("lot " + lot + " for loose house " + house, yearsOf(text.toString(), lot, 36), due);
            }
        }
    }

    private static void nothingIsChanged() {
        LeanLane lane = Check.made("AH049rH169rH352rH289lH435m");
        lane.bring(2, 4);
        lane.hour();
        String before = Check.picture(lane);
        lane.share(2, true);
        lane.rests(2, 3, 0);
        lane.fails(3, 5, true);
        lane.years(30);
        check.same("a question", before, lane);
        check.due("undo() behind questions", lane.undo(), 1);
        check.due("deeds have not failed", lane.house(0, 3), 1);
    }
}
