import java.math.BigInteger;
import java.util.Arrays;

/** The edges of promises 24 to 28: shares, rests, deeds that fail, the seed and its years. */
public final class ChancesEdgesTest {
    private static final Check check = new Check("ChancesEdgesTest");
    private static final int UNKNOWN = LeanLane.UNKNOWN;
    private static final int OUTSIDE = LeanLane.OUTSIDE;
    private static final int NONE = LeanLane.NONE;
    private static final long TIMES = 6364136223846793005L;
    private static final long MORE = 1442695040888963407L;

    public static void main(String[] args) {
        shareOfAllOrders();
        shareOfNoStones();
        shareHours();
        shareRefused();
        restsChoices();
        restsHours();
        restsIfThatCanBe();
        restsRefused();
        failsOrMore();
        failsTenths();
        failsHours();
        failsOfThoseThatStand();
        failsRefused();
        seed();
        seedWraps();
        yearsNumber();
        yearsUpperBits();
        yearsLots();
        yearsIfItCanBe();
        yearsChangeTheSeedAlone();
        yearsRefused();
        check.end();
    }

    private static void share(LeanLane lane, String what, int house, long above, long below) {
        long divisor = BigInteger.valueOf(above).gcd(BigInteger.valueOf(below)).longValueExact();
        check.due("share(" + house + ", true), " + what, lane.share(house, true), above / divisor);
        check.due("share(" + house + ", false), " + what, lane.share(house, false), below / divisor);
    }

    /** How many stand behind 6 hours, if the stones of these houses alone are there. */
    private static int standing(String text, int come) {
        LeanLane lane = Check.made(text);
        for (int house = 0; house < lane.count(1); house++) {
            if ((come >> house & 1) == 0 && lane.house(house, 1) > 0) {
                lane.take(house, lane.house(house, 1));
            }
        }
        return Integer.bitCount(lane.standing(6));
    }

    /** The sum of fewer that stand, over all orders in which the houses that have not come can come. */
    private static long fewer(String text, int houses, int house, int come) {
        long sum = 0;
        for (int next = 0; next < houses; next++) {
            if ((come >> next & 1) == 0) {
                long ordersBehind = 1;
                for (int i = 2; i < houses - Integer.bitCount(come); i++) {
                    ordersBehind *= i;
                }
                int then = come | 1 << next;
                sum += next == house ? ordersBehind * (standing(text, come) - standing(text, then)) : 0;
                sum += fewer(text, houses, house, then);
            }
        }
        return sum;
    }

    private static void shareOfAllOrders() {
        check.words("if STONES of HOUSES come one by one, in each order as likely");
        String[] texts = {
            "AH292m", "AH370mH031l", "AH370mH031lH174l", "AH031rH142lH354l", "AH052rH163lH342lH071m",
            "AH142rH093lH182lH330lH271m", "AH361rH152rH233mH164lH081lH392l",
        };
        for (String text : texts) {
            int houses = text.length() / 5;
            long below = 1;
            for (int i = 2; i <= houses; i++) {
                below *= i;
            }
            for (int house = 0; house < houses; house++) {
                share(Check.made(text), text, house, fewer(text, houses, house, 0), below);
            }
        }
        // 1 bears 6, which any two of three bring about, or of 0 and 2 with 1 one alone: reckoned by hand.
        LeanLane three = Check.made("AH139rH212mH139l");
        three.bring(0, 4);
        three.bring(2, 4);
        share(three, "both sides", 0, 3, 2);
        share(three, "both sides", 1, 0, 1);
        share(three, "both sides", 2, 3, 2);
    }

    private static void shareOfNoStones() {
        check.words("(of those that have not come 0 STONES are there, nothing else is otherwise)");
        share(Check.made("AH292m"), "9 on 6", 0, 1, 1);
        share(Check.made("AH262m"), "6 on 6", 0, 0, 1);
        share(Check.made("AH210m"), "1 on none", 0, 1, 1);
        share(Check.made("AH200m"), "none on none", 0, 0, 1);
        share(Check.made("AH009l"), "it falls in any case", 0, 0, 1);
        share(Check.made("AH492m"), "an unbuilt one", 0, 0, 1);
        // The load of 0 as it is now makes 1 fall with its stones, whether those of 0 come or not.
        share(Check.made("AH179rH232m"), "loads stay", 0, 0, 1);
        share(Check.made("AH179rH232m"), "loads stay", 1, 2, 1);
        for (int house = 0; house < 6; house++) {
            share(Check.made("AH292mH292mH292mH292mH292mH292m"), "each for itself", house, 1, 1);
        }
        check.unchanged("share()", States::busy, l -> l.share(3, true), Whole.ASPECTS);
        check.unchanged("share(), heaped", States::heaped, l -> l.share(0, false), Whole.ASPECTS);
    }

    private static void shareHours() {
        check.words("by how many HOUSES in the mean fewer stand behind 6 HOURS when they have come than did");
        // 18 in 0 are 15 in 1 an hour later, and so on: 3 in 5 in the sixth, which falls; 4 falls in the seventh.
        LeanLane slow = Check.heaped("AH109rH101rH101rH101rH101rH200m", 0, 18);
        check.due("in five hours", slow.standing(5), 63);
        check.due("in six hours", slow.standing(6), 31);
        check.due("in seven hours", slow.standing(7), 15);
        share(slow, "one falls in the sixth", 0, 1, 1);
        for (int house = 1; house < 6; house++) {
            share(slow, "it has no stones", house, 0, 1);
        }
        // All six fall, the first one in the sixth hour.
        LeanLane all = Check.made("AH009rH009rH009rH009rH009rH290m");
        share(all, "six fall", 5, 6, 1);
        share(all, "six fall", 0, 0, 1);
    }

    private static void shareRefused() {
        check.words("SHARE. UNKNOWN.");
        for (int house : Check.outside(0, 4)) {
            check.refused("share(" + house + ", true)", States::busy, l -> l.share(house, true), UNKNOWN);
            check.refused("share(" + house + ", false)", States::busy, l -> l.share(house, false), UNKNOWN);
        }
        check.due("share(4, false), the last one", States.busy().share(4, false), 1);
    }

    private static void rests(LeanLane lane, String what, int one, int other, int many, int first) {
        check.due("rests(" + one + ", " + other + ", 0), " + what, lane.rests(one, other, 0), many);
        check.due("rests(" + one + ", " + other + ", 1), " + what, lane.rests(one, other, 1), first);
    }

    private static void restsChoices() {
        check.words("each has as much as its GROUND then, 5 more, if it stands, less 2, if it chose 1");
        // 3 stones more are 3 more ground for a holy one, 2 for a leased one that had 2, 1 for one that had 1.
        String holy = "H209m", even = "H029m", odd = "H019m";
        rests(Check.made("A" + holy + holy), "both choose 1", 0, 1, 1, 11);
        rests(Check.made("A" + odd + odd), "both choose 0", 0, 1, 1, 0);
        rests(Check.made("A" + odd + holy), "0 and 1", 0, 1, 1, 1);
        rests(Check.made("A" + odd + holy), "the other way round", 1, 0, 1, 10);
        check.words("pairs in which neither has more by another choice alone: how many; the first (10 times the one and the other)");
        rests(Check.made("A" + even + even), "all four", 0, 1, 4, 0);
        rests(Check.made("A" + even + holy), "one has as much either way", 0, 1, 2, 1);
        rests(Check.made("A" + holy + even), "the other has as much either way", 0, 1, 2, 10);
        // With 3 more in 0, a stone of 3 more in 1 is too much, and both fall: 0 brings if 1 does not, 1 may if 0 does not.
        rests(Check.made("AH201mH009l"), "one of them", 0, 1, 2, 1);
        rests(Check.made("AH201mH009l"), "one of them, the other way round", 1, 0, 2, 1);
        check.words("NONE");
        rests(Check.made("AH442rH173mH340rH101rH015l"), "there is none", 3, 4, 0, NONE);
        check.words("5 more, if it stands");
        // 9 on 9 and 6 on 6: with 3 more it falls, and has nothing.
        rests(Check.made("AH293mH262m"), "both would fall", 0, 1, 1, 0);
        rests(Check.made("AH263mH262m"), "the other would fall", 0, 1, 1, 10);
        rests(Check.made("AH211mH200m"), "with little ground", 0, 1, 1, 0);
        rests(Check.made("AH490mH490m"), "neither stands", 0, 1, 1, 0);
        rests(Check.made("AH409mH409mH409mH409m" + holy + holy), "the last ones", 4, 5, 1, 11);
    }

    private static void restsHours() {
        check.words("then there are 4 HOURS");
        // By 3 more in 0 one more comes to 2 in the third hour: 2 falls, 1 falls in the fourth, 0 in the fifth alone.
        LeanLane fifth = Check.made("AH049rH139rH211mH209m");
        rests(fifth, "0 falls in the fifth", 0, 3, 2, 1);
        fifth.bring(0, 3);
        check.due("standing(3)", fifth.standing(3), 11);
        check.due("standing(4)", fifth.standing(4), 9);
        check.due("standing(5)", fifth.standing(5), 8);
        // 10 in 3 are 7 in 2, 4 in 1, and 1 more in 0 in the fourth hour: 3 stones there, and 3 more are less than 2 of ground.
        LeanLane fourth = Check.heaped("AH029mH101lH101lH109lH209m", 3, 10);
        check.due("the load of 0 in 3 hours", fourth.later(0, 3, 0), 2);
        check.due("the load of 0 in 4 hours", fourth.later(0, 4, 0), 3);
        rests(fourth, "0 has 3 in the fourth", 0, 4, 1, 1);
        // The same by 9 alone, of which nothing comes so far.
        rests(Check.heaped("AH029mH101lH101lH109lH209m", 3, 9), "0 has 2 in the fourth", 0, 4, 2, 1);
    }

    private static void restsIfThatCanBe() {
        check.words("into each 3 STONES are BROUGHT (1), if that can be, or are not (0)");
        for (int more = 86; more <= 90; more++) {
            // 95 to 99 in a hollow one: it has no more ground by 3 more, and pays 2 for them, there or not.
            rests(Check.heaped("AH199mH209m", 0, more), 9 + more + " are there", 0, 1, 1, 1);
            rests(Check.heaped("AH199mH209m", 0, more), 9 + more + " are there", 1, 0, 1, 10);
        }
        check.unchanged("rests()", States::busy, l -> l.rests(0, 3, 0), Whole.ASPECTS);
        check.unchanged("rests(), heaped", States::heaped, l -> l.rests(1, 0, 1), Whole.ASPECTS);
    }

    private static void restsRefused() {
        check.words("UNKNOWN: both; OUTSIDE: both are one, what.");
        for (int house : Check.outside(0, 4)) {
            check.refused("rests(" + house + ", 0, 0)", States::busy, l -> l.rests(house, 0, 0), UNKNOWN);
            check.refused("rests(0, " + house + ", 0)", States::busy, l -> l.rests(0, house, 0), UNKNOWN);
            check.refused("rests(" + house + ", " + house + ", 0)", States::busy, l -> l.rests(house, house, 0), UNKNOWN);
            check.refused("rests(" + house + ", 0, 2)", States::busy, l -> l.rests(house, 0, 2), UNKNOWN);
            check.refused("rests(0, " + house + ", 2)", States::busy, l -> l.rests(0, house, 2), UNKNOWN);
        }
        for (int house = 0; house <= 4; house++) {
            int same = house;
            check.refused("rests(" + same + ", " + same + ", 0)", States::busy, l -> l.rests(same, same, 0), OUTSIDE);
            check.refused("rests(" + same + ", " + same + ", 1)", States::busy, l -> l.rests(same, same, 1), OUTSIDE);
        }
        for (int what : Check.outside(0, 1)) {
            check.refused("rests(0, 4, " + what + ")", States::busy, l -> l.rests(0, 4, what), OUTSIDE);
            check.refused("rests(4, 0, " + what + ")", States::busy, l -> l.rests(4, 0, what), OUTSIDE);
        }
    }

    private static void fails(LeanLane lane, String what, int v, int x, long above, long below) {
        long divisor = BigInteger.valueOf(above).gcd(BigInteger.valueOf(below)).longValueExact();
        check.due("fails(" + v + ", " + x + ", true), " + what, lane.fails(v, x, true), above / divisor);
        check.due("fails(" + v + ", " + x + ", false), " + what, lane.fails(v, x, false), below / divisor);
    }

    private static long power(long base, int exponent) {
        return BigInteger.valueOf(base).pow(exponent).longValueExact();
    }

    private static void failsOrMore() {
        check.words("that v HOUSES (0 to 6) or more stand behind 3 HOURS: a FRACTION");
        // Houses on the monk, each by itself: so many of six, in 1, 6, 15, 20, 15, 6 or 1 ways.
        int[] ways = {1, 6, 15, 20, 15, 6, 1};
        for (int v = 0; v <= 6; v++) {
            for (int x = 0; x <= 10; x++) {
                long above = 0;
                for (int stand = v; stand <= 6; stand++) {
                    above += ways[stand] * power(10 - x, stand) * power(x, 6 - stand);
                }
                fails(Check.made("AH009mH109mH309mH009mH009mH009m"), "six", v, x, above, 1000000);
            }
        }
        for (int v = 0; v <= 6; v++) {
            fails(new LeanLane(), "no houses", v, 5, v == 0 ? 1 : 0, 1);
            fails(Check.made("AH009m"), "one house", v, 1, v == 0 ? 10 : v == 1 ? 9 : 0, 10);
        }
    }

    private static void failsTenths() {
        check.words("DEEDS of HOUSES that stand fail now by x tenths (0 to 10), each by itself (it LEANS on nothing that stands then)");
        for (int x = 0; x <= 10; x++) {
            fails(Check.made("AH009m"), "on the monk", 1, x, 10 - x, 10);
            fails(Check.made("AH209mH009l"), "on a holy one", 2, x, 10 - x, 10);
            fails(Check.made("AH209m"), "a holy one stands without", 1, x, 1, 1);
            // 6 that 0 passes on are too much for 1; if the deed of 0 fails, 0 falls and 1 is spared, but for its own deed.
            fails(Check.made("AH199rH061m"), "1 is spared", 1, x, x * (10 - x), 100);
            fails(Check.made("AH199rH232m"), "1 is spared, and needs no deed", 1, x, x, 10);
        }
    }

    private static void failsHours() {
        check.words("stand behind 3 HOURS");
        // If the last deed fails, 0 falls in the fourth hour, unless one of the three ahead of it fails too.
        LeanLane four = Check.made("AH009rH009rH009rH009m");
        fails(four, "one stands", 1, 1, 10000 - 1000 + 729, 10000);
        fails(four, "all stand", 4, 1, 6561, 10000);
        // Of three the first has fallen in the third hour.
        fails(Check.made("AH009rH009rH009m"), "one stands", 1, 1, 9, 10);
    }

    private static void failsOfThoseThatStand() {
        fails(Check.made("AH009mH409m"), "an unbuilt one", 1, 3, 7, 10);
        LeanLane fallen = Check.made("AH009mH290m");
        fallen.hour();
        fails(fallen, "a fallen one", 1, 3, 7, 10);
        fails(fallen, "a fallen one", 2, 0, 0, 1);
        check.unchanged("fails()", States::busy, l -> l.fails(2, 5, true), Whole.ASPECTS);
        check.unchanged("fails(), heaped", States::heaped, l -> l.fails(0, 10, false), Whole.ASPECTS);
    }

    private static void failsRefused() {
        check.words("FAILS. OUTSIDE: v, x.");
        for (int v : Check.outside(0, 6)) {
            check.refused("fails(" + v + ", 0, true)", States::busy, l -> l.fails(v, 0, true), OUTSIDE);
            check.refused("fails(" + v + ", 10, false)", States::busy, l -> l.fails(v, 10, false), OUTSIDE);
        }
        for (int x : Check.outside(0, 10)) {
            check.refused("fails(0, " + x + ", true)", States::busy, l -> l.fails(0, x, true), OUTSIDE);
            check.refused("fails(6, " + x + ", false)", States::busy, l -> l.fails(6, x, false), OUTSIDE);
        }
        check.due("fails(6, 0, true) of five, more than there are", States.busy().fails(6, 0, true), 0);
    }

    private static void seed() {
        check.words("THE SEED is v: what it was.");
        long[] seeds = {1, -1, Long.MAX_VALUE, Long.MIN_VALUE, 1L << 33, 0, 5};
        LeanLane lane = new LeanLane();
        long was = 0;
        for (long v : seeds) {
            check.due("seed(" + v + ")", lane.seed(v), was);
            was = v;
        }
        check.unchanged("seed()", States::busy, l -> l.seed(5), Whole.ALL_BUT_SEED);
        check.words("THE SEED, a long; 0 at first");
        check.due("seed(1), at first", new LeanLane().seed(1), 0);
    }

    private static BigInteger unsigned(long x) {
        return new BigInteger(Long.toUnsignedString(x));
    }

    /** The next one, reckoned without an end and cut to 64 bits. */
    private static long next(long x) {
        return unsigned(x).multiply(unsigned(TIMES)).add(unsigned(MORE)).longValue();
    }

    private static int lot(long x) {
        return unsigned(x).shiftRight(33).mod(BigInteger.valueOf(40)).intValueExact();
    }

    private static void seedWraps() {
        check.words("x (THE SEED, a long; 0 at first) becomes x times 6364136223846793005 and 1442695040888963407 "
                + "(64 bits, wrapping)");
        for (long v : new long[] {0, 1, -1, Long.MAX_VALUE, Long.MIN_VALUE, 1L << 32, 77}) {
            LeanLane lane = Check.made("AH209m");
            lane.seed(v);
            lane.years(1);
            check.due("the seed behind one year of " + v, lane.seed(v), next(v));
            lane.years(30);
            long x = v;
            for (int year = 0; year < 30; year++) {
                x = next(x);
            }
            check.due("the seed behind 30 years of " + v, lane.seed(0), x);
        }
    }

    private static void yearsNumber() {
        check.words("m times (1 to 30)");
        // Holy ones that no year harms.
        String text = "AH209mH209mH209m";
        for (int m = 1; m <= 30; m++) {
            LeanLane lane = Check.made(text);
            check.due("years(" + m + ")", lane.years(m), 3 * m);
        }
        LeanLane lane = Check.made(text);
        lane.years(1);
        lane.years(29);
        LeanLane whole = Check.made(text);
        whole.years(30);
        check.due("29 years go on from one", lane.seed(0), whole.seed(0));
    }

    /** A seed by which the years are these. */
    private static long seedOf(int... lots) {
        for (long seed = 1; seed < 100_000_000; seed++) {
            // Half of the seeds are below 0, so that upper bits are met too.
            long x = seed % 2 == 0 ? seed : -seed;
            int hit = 0;
            while (hit < lots.length) {
                x = x * TIMES + MORE;
                if (lot31(x) != lots[hit]) {
                    break;
                }
                hit++;
            }
            if (hit == lots.length) {
                return seed % 2 == 0 ? seed : -seed;
            }
        }
        throw new IllegalStateException("no such seed");
    }

    private static int lot31(long x) {
        return (int) (x >>> 33) % 40;
    }

    private static void years(String text, int want, int... lots) {
        LeanLane lane = Check.made(text);
        long seed = seedOf(lots);
        long x = seed;
        for (int lot : lots) {
            x = next(x);
            check.due("the lot of " + x, lot(x), lot);
        }
        lane.seed(seed);
        check.due("years of " + text + " by " + Arrays.toString(lots), lane.years(lots.length), want);
    }

    private static void yearsUpperBits() {
        check.words("its upper 31 bits by 40, what is left");
        // One on no strength: 0 and 1 bring a stone into it, 12 takes it, and 36 and more make it fall; all else leaves it.
        for (long v = -40; v <= 40; v++) {
            for (long seed : new long[] {v, v << 57, v * TIMES}) {
                LeanLane lane = Check.made("AH210m");
                lane.seed(seed);
                int due = lot(next(seed)) >= 36 ? 0 : 1;
                check.due("years(1) by " + seed, lane.years(1), due);
            }
        }
    }

    private static void yearsLots() {
        check.words("0 to 11 into that by 2 (cut) HOUSE 1, and what is left by 2 more, STONES are BROUGHT");
        years("AH231m", 1, 0, 36);
        years("AH221m", 2, 0, 36);
        years("AH221m", 1, 1, 36);
        years("AH211m", 2, 1, 36);
        String last = "AH209mH209mH209mH209mH209m";
        years(last + "H221m", 12, 10, 36);
        years(last + "H231m", 11, 10, 36);
        years(last + "H211m", 12, 11, 36);
        years(last + "H221m", 11, 11, 36);
        check.words("12 to 17 from that less 12 HOUSE 1 is TAKEN");
        years("AH241m", 2, 12, 36);
        years("AH251m", 1, 12, 36);
        years(last + "H241m", 12, 17, 36);
        years(last + "H251m", 11, 17, 36);
        check.words("18 to 35 that less 18, by 3 (cut), is a HOUSE whose DEED is what is left by 3 (0 l, 1 r, 2 m)");
        years("AH009mH209m", 3, 18, 36);
        years("AH009lH209m", 4, 19, 36);
        years("AH009lH209m", 4, 20, 36);
        years(last + "H009r", 12, 33, 36);
        years(last + "H009m", 11, 34, 36);
        years(last + "H009r", 12, 35, 36);
        check.words("36 and more AN HOUR");
        for (int lot = 0; lot < 40; lot++) {
            // Too heavy by much: any hour makes it fall, and nothing else does.
            years("AH290m", lot >= 36 ? 0 : 1, lot);
        }
        check.words("how many HOUSES stand, each time, together");
        years("AH009rH009rH290m", 2 + 1 + 0, 36, 39, 37);
        years("AH009rH009rH290m", 3 + 2 + 2 + 1, 20, 36, 5, 38);
    }

    private static void yearsIfItCanBe() {
        check.words("each if it can be");
        // None can be taken of none, so one that is brought then is one too many.
        years("AH200m", 2 + 0, 12, 0, 36);
        years("AH210m", 3, 12, 12, 36);
        // Houses that are not there, and a deed that it has.
        years("AH209m", 2, 11, 36);
        years("AH209m", 2, 17, 36);
        years("AH209m", 2, 35, 36);
        years("AH009m", 2, 20, 36);
        // Into an unbuilt one they can be brought; it stands no more for that.
        years("AH409mH209m", 2, 1, 36);
        LeanLane full = Check.heaped("AH199m", 0, 90);
        full.seed(seedOf(0, 1, 36));
        check.due("99 there are", full.years(3), 3);
        check.due("and are still", full.house(0, 1), 99);
    }

    private static void yearsChangeTheSeedAlone() {
        check.words("(Nothing changes but THE SEED.)");
        check.unchanged("years(1)", States::busy, l -> l.years(1), Whole.ALL_BUT_SEED);
        check.unchanged("years(30)", States::busy, l -> l.years(30), Whole.ALL_BUT_SEED);
        check.unchanged("years(30), heaped", States::heaped, l -> l.years(30), Whole.ALL_BUT_SEED);
        LeanLane lane = States.busy();
        lane.years(1);
        check.due("the seed changes", lane.seed(0), next(77));
    }

    private static void yearsRefused() {
        check.words("YEARS. OUTSIDE: m.");
        for (int m : Check.outside(1, 30)) {
            check.refused("years(" + m + ")", States::busy, l -> l.years(m), OUTSIDE);
            check.refused("years(" + m + ") of none", LeanLane::new, l -> l.years(m), OUTSIDE);
        }
    }
}
