import java.util.Random;

/** Long runs of calls, told by a fixed number, on the program and on the model: each answer is the same. */
public final class ModelTest {
    private static final int RUNS = 600;
    /** An object lasts for 512 calls; one step of a run makes 40 at most. */
    private static final int CALLS = 512 - 40;
    private static final int[] WILD = {-1, 7, 10, 31, 64, 99, 1000, Integer.MIN_VALUE, Integer.MAX_VALUE, -9, 32, 1 << 30};

    private final Random random;
    private final LeanLane lane = new LeanLane();
    private final Model model = new Model();
    private final StringBuilder calls = new StringBuilder();
    private int made;
    private String wrong = "";

    private ModelTest(long number) {
        random = new Random(number);
    }

    public static void main(String[] args) {
        Check.watch("ModelTest");
        int failed = 0;
        for (int run = 0; run < RUNS && failed < 3; run++) {
            ModelTest test = new ModelTest(run);
            test.play();
            if (!test.wrong.isEmpty()) {
                failed++;
                System.out.println("run " + run + ": " + test.wrong + " behind " + test.calls);
            }
        }
        System.out.println("ModelTest: " + RUNS + " runs, " + failed + " not as due");
        if (failed != 0) {
            System.exit(1);
        }
    }

    private void play() {
        if (random.nextInt(8) > 0) {
            tellLane();
        }
        while (made < CALLS && wrong.isEmpty()) {
            int kind = random.nextInt(40);
            if (kind == 0) {
                tellLane();
            } else if (kind == 1) {
                tellFault();
            } else if (kind == 2 && random.nextInt(4) == 0) {
                heap(anyHouse());
            } else if (kind < 20) {
                doAct();
            } else {
                ask();
            }
        }
    }

    private void held(String call, long got, long want) {
        made++;
        calls.append(call).append(' ');
        if (got != want && wrong.isEmpty()) {
            wrong = call + " answered " + got + ", due is " + want;
        }
    }

    private void letter(int letter) {
        held("write(" + letter + ")", lane.write(letter), model.write(letter));
    }

    private String house() {
        String kind = "" + "0012334".charAt(random.nextInt(7));
        String strength = "" + (random.nextInt(4) == 0 ? random.nextInt(10) : 2 + random.nextInt(8));
        return "H" + kind + random.nextInt(10) + strength + "lrm".charAt(random.nextInt(3));
    }

    /** One that has a hold at first, and is strong enough for little more than it bears. */
    private String steadyHouse(int i, int houses) {
        String kind = "" + "00112333".charAt(random.nextInt(8));
        String deeds = (i > 0 ? "ll" : "") + (i < houses - 1 ? "rr" : "") + "m";
        String strength = "" + (random.nextInt(3) == 0 ? 9 : 1 + random.nextInt(5));
        return "H" + kind + random.nextInt(10) + strength + deeds.charAt(random.nextInt(deeds.length()));
    }

    private void tellLane() {
        held("wipe()", lane.wipe(), model.wipe());
        StringBuilder text = new StringBuilder("A");
        boolean steady = random.nextInt(3) > 0;
        int houses = random.nextInt(3) > 0 ? 2 + random.nextInt(5) : random.nextInt(7);
        for (int i = 0; i < houses; i++) {
            text.append(steady ? steadyHouse(i, houses) : house());
        }
        text.chars().forEach(this::letter);
        held("fault()", lane.fault(), model.fault());
        held("lane()", lane.lane(), model.lane());
    }

    private void tellFault() {
        held("wipe()", lane.wipe(), model.wipe());
        StringBuilder text = new StringBuilder("A");
        int houses = random.nextInt(8);
        for (int i = 0; i < houses; i++) {
            text.append(house());
        }
        text.setLength(random.nextInt(text.length() + 1));
        if (random.nextBoolean() && text.length() > 0) {
            int[] odd = {'A', 'H', '0', '4', '5', '9', 'l', 'r', 'm', 0, 255, '/', ':', 'h', 'a', ' '};
            text.setCharAt(random.nextInt(text.length()), (char) odd[random.nextInt(odd.length)]);
        }
        text.chars().forEach(this::letter);
        held("fault()", lane.fault(), model.fault());
        if (random.nextInt(4) == 0) {
            held("lane()", lane.lane(), model.lane());
        }
    }

    /** A number from low to high, and now and then another one. */
    private int some(int low, int high) {
        int odd = random.nextInt(60);
        if (odd == 0) {
            return WILD[random.nextInt(WILD.length)];
        }
        if (odd == 1) {
            return random.nextBoolean() ? low - 1 : high + 1;
        }
        return low + random.nextInt(high - low + 1);
    }

    private int anyHouse() {
        return some(0, Math.max(0, model.count(1) - 1));
    }

    /** Stones up to the most, or little below. */
    private void heap(int h) {
        for (int i = 0; i < 11; i++) {
            held("bring(" + h + ", 9)", lane.bring(h, 9), model.bring(h, 9));
        }
        int v = 1 + random.nextInt(9);
        held("bring(" + h + ", " + v + ")", lane.bring(h, v), model.bring(h, v));
    }

    private void doAct() {
        int h = anyHouse();
        switch (random.nextInt(13)) {
            case 0, 1, 2 -> held("hour()", lane.hour(), model.hour());
            case 3, 4, 5 -> {
                int v = some(1, 9);
                held("bring(" + h + ", " + v + ")", lane.bring(h, v), model.bring(h, v));
            }
            case 6, 7 -> {
                int v = some(1, 9);
                held("take(" + h + ", " + v + ")", lane.take(h, v), model.take(h, v));
            }
            case 8 -> {
                int d = some(0, 2);
                held("deed(" + h + ", " + d + ")", lane.deed(h, d), model.deed(h, d));
            }
            case 9, 10 -> held("build(" + h + ")", lane.build(h), model.build(h));
            case 11 -> held("undo()", lane.undo(), model.undo());
            default -> doSlot();
        }
    }

    private void doSlot() {
        int slot = some(0, 1);
        if (random.nextBoolean()) {
            held("keep(" + slot + ")", lane.keep(slot), model.keep(slot));
        } else {
            held("again(" + slot + ")", lane.again(slot), model.again(slot));
        }
    }

    private void ask() {
        switch (random.nextInt(19)) {
            case 0, 1 -> {
                int h = anyHouse();
                int what = some(0, 7);
                held("house(" + h + ", " + what + ")", lane.house(h, what), model.house(h, what));
            }
            case 2 -> {
                int h = anyHouse();
                int n = some(0, 30);
                int what = some(0, 1);
                held("later(" + h + ", " + n + ", " + what + ")", lane.later(h, n, what), model.later(h, n, what));
            }
            case 3 -> {
                int n = some(0, 30);
                held("standing(" + n + ")", lane.standing(n), model.standing(n));
            }
            case 4 -> {
                int h = anyHouse();
                held("falls(" + h + ")", lane.falls(h), model.falls(h));
            }
            case 5 -> held("rings()", lane.rings(), model.rings());
            case 6 -> askOrders();
            case 7 -> {
                int p = some(1, 9);
                held("piano(" + p + ")", lane.piano(p), model.piano(p));
            }
            case 8 -> {
                int what = some(0, 1);
                held("sacks(" + what + ")", lane.sacks(what), model.sacks(what));
            }
            case 9, 10 -> askJudge();
            case 11 -> askSeen();
            case 12 -> {
                int what = some(0, 1);
                held("night(" + what + ")", lane.night(what), model.night(what));
            }
            case 13 -> {
                int h = anyHouse();
                boolean upper = random.nextBoolean();
                held("share(" + h + ", " + upper + ")", lane.share(h, upper), model.share(h, upper));
            }
            case 14 -> {
                int one = anyHouse();
                int other = anyHouse();
                int what = some(0, 1);
                held("rests(" + one + ", " + other + ", " + what + ")", lane.rests(one, other, what), model.rests(one, other, what));
            }
            case 15 -> {
                int v = some(0, 6);
                int x = some(0, 10);
                boolean upper = random.nextBoolean();
                held("fails(" + v + ", " + x + ", " + upper + ")", lane.fails(v, x, upper), model.fails(v, x, upper));
            }
            case 16 -> {
                int m = some(1, 30);
                held("years(" + m + ")", lane.years(m), model.years(m));
            }
            case 17 -> {
                long v = random.nextLong();
                held("seed(" + v + ")", lane.seed(v), model.seed(v));
            }
            default -> {
                int what = some(0, 8);
                held("count(" + what + ")", lane.count(what), model.count(what));
            }
        }
    }

    private void askSeen() {
        if (random.nextInt(8) == 0) {
            held("unsee()", lane.unsee(), model.unsee());
            return;
        }
        int h = some(1, 9);
        int house = some(0, 5);
        // What will be without a night is often so with one too, so that some nights are left.
        int stood = random.nextInt(4) == 0 ? some(0, 1) : model.standing(Math.floorMod(h, 10)) >> Math.floorMod(house, 6) & 1;
        held("see(" + h + ", " + house + ", " + stood + ")", lane.see(h, house, stood), model.see(h, house, stood));
    }

    private void askOrders() {
        int n = some(1, 4);
        long row = 0;
        for (int i = 0; i < Math.min(5, n); i++) {
            int house = Math.floorMod(anyHouse(), 10);
            int way = Math.floorMod(some(0, 1), 10);
            row = 1000 * row + 100 * house + 10 * way + Math.floorMod(some(1, 9), 10);
        }
        row = oddRow(row);
        int what = some(0, 1);
        held("orders(" + n + ", " + row + ", " + what + ")", lane.orders(n, row, what), model.orders(n, row, what));
    }

    private void askJudge() {
        int n = some(1, 4);
        long row = 0;
        for (int i = 0; i < Math.min(5, n); i++) {
            row = 10000 * row + doing();
        }
        row = oddRow(row);
        held("judge(" + n + ", " + row + ")", lane.judge(n, row), model.judge(n, row));
    }

    private int doing() {
        int house = Math.floorMod(anyHouse(), 10);
        return switch (random.nextInt(12)) {
            case 0, 1, 2 -> 0;
            case 3 -> 1000 + 10 * house + random.nextInt(10);
            case 4 -> 2000 + 10 * house + random.nextInt(10);
            case 5 -> 3000 + 10 * house + random.nextInt(4);
            case 6 -> 4000 + house;
            case 7 -> 5000 + house;
            case 8, 9, 10 -> 6000 + 100 * house + Math.min(99, Math.max(0, model.house(house, 5) + random.nextInt(5) - 3));
            default -> random.nextInt(10000);
        };
    }

    private long oddRow(long row) {
        return switch (random.nextInt(60)) {
            case 0 -> -row - 1;
            case 1 -> random.nextLong();
            case 2 -> row + 1000000000000L;
            case 3 -> row + 10000000000000000L;
            default -> row;
        };
    }
}
