/** The edges of promise 20: told doings, each form of them, where the first one that can not be stands. */
public final class JudgeEdgesTest {
    private static final Check check = new Check("JudgeEdgesTest");
    private static final int OUTSIDE = LeanLane.OUTSIDE;
    private static final int NONE = LeanLane.NONE;

    public static void main(String[] args) {
        hours();
        brought();
        taken();
        deeds();
        built();
        stands();
        loads();
        otherFigures();
        firstPlace();
        oneBehindTheOther();
        refused();
        check.end();
    }

    private static void judged(LeanLane lane, int n, long row, int want) {
        check.due("judge(" + n + ", " + row + ")", lane.judge(n, row), want);
    }

    /** One doing alone, on the busy lane: it can be (NONE), or is the first that can not (0). */
    private static void one(long row, boolean canBe) {
        judged(States.busy(), 1, row, canBe ? NONE : 0);
    }

    private static void hours() {
        check.words("0, 0, 0, 0: AN HOUR");
        one(0, true);
        one(1, false);
        one(9, false);
        one(10, false);
        one(100, false);
        judged(new LeanLane(), 4, 0, NONE);
    }

    private static void brought() {
        check.words("1, 0, a HOUSE, v: v STONES are BROUGHT");
        one(1000, false);
        one(1001, true);
        one(1009, true);
        one(1041, true);
        one(1021, true);
        one(1051, false);
        one(1091, false);
        one(1101, false);
        LeanLane full = Check.heaped("AH199mH209m", 0, 89);
        judged(full, 1, 1001, NONE);
        judged(full, 1, 1002, 0);
        judged(full, 2, 10011001, 1);
        judged(full, 2, 10011011, NONE);
    }

    private static void taken() {
        check.words("2, 0, a HOUSE, v: TAKEN");
        one(2000, false);
        one(2001, true);
        one(2006, true);
        one(2007, false);
        one(2029, true);
        one(2047, true);
        one(2048, false);
        one(2051, false);
        one(2101, false);
        judged(States.busy(), 2, 20062001, 1);
        judged(States.busy(), 3, 200610012001L, NONE);
    }

    private static void deeds() {
        check.words("3, 0, a HOUSE, 0 l, 1 r, 2 m: DEED");
        int[] leans = {2, 0, 1, 2, 2};
        for (int house = 0; house < 5; house++) {
            for (int d = 0; d <= 2; d++) {
                one(3000 + 10 * house + d, d != leans[house]);
            }
            one(3003 + 10 * house, false);
            one(3009 + 10 * house, false);
        }
        one(3050, false);
        one(3100, false);
        judged(States.busy(), 3, 300030023002L, 2);
    }

    private static void built() {
        check.words("4, 0, 0, a HOUSE: BUILT");
        one(4000, false);
        one(4001, false);
        one(4002, true);
        one(4003, false);
        one(4004, true);
        one(4005, false);
        one(4012, false);
        one(4102, false);
        judged(States.busy(), 2, 40024002, 1);
        // It falls again of its 14 stones, 7 of which are ground, and can be built once more.
        judged(States.busy(), 3, 400200004002L, NONE);
    }

    private static void stands() {
        check.words("5, 0, 0, a HOUSE: it stands");
        one(5000, true);
        one(5001, true);
        one(5002, false);
        one(5003, true);
        one(5004, false);
        one(5005, false);
        one(5010, false);
        one(5100, false);
        judged(States.busy(), 2, 40045004, NONE);
    }

    private static void loads() {
        check.words("6, a HOUSE, two figures: its LOAD is so much or more");
        int[] loads = {8, 7, 0, 14, 0};
        for (int house = 0; house < 5; house++) {
            int row = 6000 + 100 * house + loads[house];
            one(row, true);
            one(row + 1, false);
            one(6000 + 100 * house, true);
            one(6099 + 100 * house, false);
        }
        one(6500, false);
        one(6900, false);
        LeanLane much = Check.made("AH199rH199l");
        Check.heap(much, 0, 90);
        Check.heap(much, 1, 90);
        // In an hour 99 and 6.
        judged(much, 2, 6099, NONE);
        judged(much, 1, 6009, NONE);
        judged(much, 1, 6010, 0);
    }

    private static void otherFigures() {
        check.words("the place of the first that can not be (or is not so); NONE: none");
        one(7000, false);
        one(8000, false);
        one(9999, false);
    }

    private static void firstPlace() {
        // An hour can be, a doing 7 can not.
        judged(States.busy(), 1, 7000, 0);
        judged(States.busy(), 2, 7000_0000L, 0);
        judged(States.busy(), 2, 7000L, 1);
        judged(States.busy(), 3, 7000L, 2);
        judged(States.busy(), 4, 7000_0000_0000_0000L, 0);
        judged(States.busy(), 4, 7000_0000_0000L, 1);
        judged(States.busy(), 4, 7000_0000L, 2);
        judged(States.busy(), 4, 7000L, 3);
        judged(States.busy(), 4, 0L, NONE);
        judged(States.busy(), 4, 7000_7000_7000L, 1);
        judged(States.busy(), 4, 7000_0000_7000_0000L, 0);
        judged(States.busy(), 1, 1001L, NONE);
        judged(States.busy(), 4, 1001_1001_1001_1001L, NONE);
    }

    private static void oneBehindTheOther() {
        check.words("n doings (1 to 4), told as four figures each");
        // Brought, the load shows with the hour.
        judged(Check.made("AH049m"), 2, 1009_6013L, 1);
        judged(Check.made("AH049m"), 3, 1009_0000_6013L, NONE);
        judged(Check.made("AH049m"), 3, 1009_0000_6014L, 2);
        // What falls in the hour stands no more.
        judged(Check.made("AH292m"), 1, 5000L, NONE);
        judged(Check.made("AH292m"), 2, 5000L, 1);
        judged(Check.made("AH292m"), 3, 2003_0000_5000L, NONE);
        judged(Check.made("AH292m"), 3, 2002_0000_5000L, 2);
        judged(Check.made("AH009m"), 3, 3000_0000_5000L, 2);
    }

    private static void refused() {
        check.words("OUTSIDE: n, row (0 or more, 4 n figures at most).");
        for (int n : Check.outside(1, 4)) {
            check.refused("judge(" + n + ", 0)", States::busy, l -> l.judge(n, 0), OUTSIDE);
        }
        for (long row : new long[] {-1, -7000, Long.MIN_VALUE, Long.MAX_VALUE}) {
            for (int n = 1; n <= 4; n++) {
                int many = n;
                check.refused("judge(" + n + ", " + row + ")", States::busy, l -> l.judge(many, row), OUTSIDE);
            }
        }
        long most = 1;
        for (int n = 1; n <= 4; n++) {
            int many = n;
            most *= 10000;
            long tooLong = most;
            check.refused("judge(" + n + ", " + tooLong + ")", States::busy, l -> l.judge(many, tooLong), OUTSIDE);
            check.due("judge(" + n + ", " + (tooLong - 1) + ")", States.busy().judge(n, tooLong - 1), 0);
            check.refused("judge(" + n + ", 10 times that)", States::busy, l -> l.judge(many, 10 * tooLong), OUTSIDE);
        }
        check.unchanged("judge() of what can be", States::busy, l -> l.judge(4, 1009400430000000L), Whole.ASPECTS);
    }
}
