import java.math.BigInteger;
import java.util.ArrayList;
import java.util.List;

/** The document once more, written slowly and otherwise than the program, to hold the program's answers against. */
final class Model {
    private static final int UNKNOWN = -1, OUTSIDE = -2, STATE = -3, FULL = -4, NONE = -9;

    /** One house; fails: its deed has failed. */
    private record House(int kind, int stones, int strength, char deed, boolean stands, int load, boolean fails) {
        House stones(int v) {
            return new House(kind, v, strength, deed, stands, load, fails);
        }

        House deed(char d) {
            return new House(kind, stones, strength, d, stands, load, fails);
        }

        House load(int l) {
            return new House(kind, stones, strength, deed, stands, l, fails);
        }

        House built() {
            return new House(kind == 4 ? 0 : kind, stones, strength, deed, true, stones, fails);
        }

        House fallen() {
            return new House(kind, stones, strength, deed, false, 0, fails);
        }

        House failed() {
            return new House(kind, stones, strength, deed, stands, load, true);
        }

        int gives() {
            if (!stands) {
                return 0;
            }
            return switch (kind) {
                case 0 -> load / 2;
                case 1 -> Math.max(load - 3, 0);
                case 2 -> 0;
                default -> load / 2 + load % 2;
            };
        }

        int ground() {
            return load - gives();
        }
    }

    private record Lane(List<House> houses, int hour) {
        House at(int i) {
            return houses.get(i);
        }

        int size() {
            return houses.size();
        }

        boolean has(int i) {
            return i >= 0 && i < size();
        }

        Lane with(int i, House house) {
            List<House> row = new ArrayList<>(houses);
            row.set(i, house);
            return new Lane(List.copyOf(row), hour);
        }

        int bits() {
            int bits = 0;
            for (int i = 0; i < size(); i++) {
                bits += at(i).stands ? (int) Math.pow(2, i) : 0;
            }
            return bits;
        }

        int number() {
            return (int) houses.stream().filter(House::stands).count();
        }

        boolean leansOn(int i, int j) {
            return !at(i).fails && (at(i).deed == 'l' && j == i - 1 || at(i).deed == 'r' && j == i + 1);
        }

        boolean isHeld(int i) {
            if (!at(i).fails && at(i).deed == 'm') {
                return true;
            }
            for (int j = 0; j < size(); j++) {
                if (leansOn(i, j) && at(j).stands) {
                    return true;
                }
            }
            return false;
        }

        Lane next() {
            List<House> loaded = new ArrayList<>();
            for (int j = 0; j < size(); j++) {
                int load = at(j).stones;
                for (int i = 0; i < size(); i++) {
                    load += leansOn(i, j) ? at(i).gives() : 0;
                }
                loaded.add(at(j).stands ? at(j).load(load) : at(j));
            }
            List<House> left = new ArrayList<>();
            for (int i = 0; i < size(); i++) {
                House house = loaded.get(i);
                boolean heavy = house.ground() > 3 * house.strength;
                boolean loose = house.kind != 2 && !isHeld(i);
                left.add(house.stands && (heavy || loose) ? house.fallen() : house);
            }
            return new Lane(List.copyOf(left), hour + 1);
        }

        Lane in(int n) {
            return n == 0 ? this : next().in(n - 1);
        }

        boolean calm(int n) {
            return in(n).bits() == bits();
        }

        /** null: it can not be. */
        Lane brought(int i, int v) {
            return has(i) && v >= 1 && v <= 9 && at(i).stones + v <= 99 ? with(i, at(i).stones(at(i).stones + v)) : null;
        }

        Lane taken(int i, int v) {
            return has(i) && v >= 1 && v <= 9 && at(i).stones >= v ? with(i, at(i).stones(at(i).stones - v)) : null;
        }

        Lane deed(int i, int d) {
            return has(i) && d >= 0 && d <= 2 && at(i).deed != "lrm".charAt(d) ? with(i, at(i).deed("lrm".charAt(d))) : null;
        }

        Lane built(int i) {
            return has(i) && !at(i).stands ? with(i, at(i).built()) : null;
        }
    }

    private record Sight(int h, int house, int stood) { }

    private String text = "";
    private Lane now = new Lane(List.of(), 0);
    private final List<Lane> acts = new ArrayList<>();
    private final List<Sight> seen = new ArrayList<>();
    private final Lane[] slots = new Lane[2];
    private long seed;

    int write(int letter) {
        if (letter < 0 || letter > 255) {
            return OUTSIDE;
        }
        if (text.length() == 64) {
            return FULL;
        }
        text += (char) letter;
        return text.length();
    }

    int wipe() {
        int was = text.length();
        text = "";
        return was;
    }

    /** A beginning is fine if it can be made a lane by some end, which is the case if it matches a cut lane. */
    private static boolean canBecomeLane(String start) {
        for (int more = 0; more <= 4; more++) {
            String end = "H000m".substring(5 - more);
            if (isLane(start + end) || start.isEmpty()) {
                return true;
            }
        }
        return false;
    }

    private static boolean isLane(String whole) {
        return whole.matches("A(H[0-4][0-9][0-9][lrm]){0,6}");
    }

    int fault() {
        if (isLane(text)) {
            return NONE;
        }
        for (int i = 0; i < text.length(); i++) {
            if (!canBecomeLane(text.substring(0, i + 1))) {
                return i;
            }
        }
        return text.length();
    }

    int lane() {
        if (!isLane(text)) {
            return STATE;
        }
        List<House> row = new ArrayList<>();
        for (String one : text.substring(1).split("H")) {
            if (!one.isEmpty()) {
                int kind = one.charAt(0) - '0';
                int stones = one.charAt(1) - '0';
                row.add(new House(kind, stones, one.charAt(2) - '0', one.charAt(3), kind != 4, kind == 4 ? 0 : stones, false));
            }
        }
        now = new Lane(List.copyOf(row), 0);
        acts.clear();
        slots[0] = null;
        slots[1] = null;
        return row.size();
    }

    int house(int i, int what) {
        if (!now.has(i)) {
            return UNKNOWN;
        }
        House h = now.at(i);
        return switch (what) {
            case 0 -> h.kind;
            case 1 -> h.stones;
            case 2 -> h.strength;
            case 3 -> "lrm".indexOf(h.deed);
            case 4 -> h.stands ? 1 : 0;
            case 5 -> h.load;
            case 6 -> h.gives();
            case 7 -> h.ground();
            default -> OUTSIDE;
        };
    }

    private void act(Lane then) {
        acts.add(now);
        if (acts.size() > 14) {
            acts.remove(0);
        }
        now = then;
    }

    int hour() {
        int stood = now.number();
        act(now.next());
        return stood - now.number();
    }

    int bring(int i, int v) {
        if (!now.has(i)) {
            return UNKNOWN;
        }
        if (v < 1 || v > 9) {
            return OUTSIDE;
        }
        Lane then = now.brought(i, v);
        if (then == null) {
            return FULL;
        }
        act(then);
        return now.at(i).stones;
    }

    int take(int i, int v) {
        if (!now.has(i)) {
            return UNKNOWN;
        }
        if (v < 1 || v > 9) {
            return OUTSIDE;
        }
        Lane then = now.taken(i, v);
        if (then == null) {
            return STATE;
        }
        act(then);
        return now.at(i).stones;
    }

    int deed(int i, int d) {
        if (!now.has(i)) {
            return UNKNOWN;
        }
        if (d < 0 || d > 2) {
            return OUTSIDE;
        }
        int was = house(i, 3);
        Lane then = now.deed(i, d);
        if (then == null) {
            return STATE;
        }
        act(then);
        return was;
    }

    int build(int i) {
        if (!now.has(i)) {
            return UNKNOWN;
        }
        Lane then = now.built(i);
        if (then == null) {
            return STATE;
        }
        act(then);
        return now.at(i).stones;
    }

    int undo() {
        if (acts.isEmpty()) {
            return STATE;
        }
        now = acts.remove(acts.size() - 1);
        return acts.size();
    }

    int later(int i, int n, int what) {
        if (!now.has(i)) {
            return UNKNOWN;
        }
        if (n < 0 || n > 30 || what < 0 || what > 1) {
            return OUTSIDE;
        }
        House then = now.in(n).at(i);
        return what == 0 ? then.load : then.ground();
    }

    int standing(int n) {
        return n < 0 || n > 30 ? OUTSIDE : now.in(n).bits();
    }

    int falls(int i) {
        if (!now.has(i)) {
            return UNKNOWN;
        }
        if (!now.at(i).stands) {
            return STATE;
        }
        int n = 1;
        while (n <= 30 && now.in(n).at(i).stands) {
            n++;
        }
        return n <= 30 ? n : NONE;
    }

    int rings() {
        int bits = 0;
        for (int i = 0; i < now.size(); i++) {
            for (int j = 0; j < now.size(); j++) {
                if (now.leansOn(i, j) && now.leansOn(j, i)) {
                    bits |= 1 << i;
                }
            }
        }
        return bits;
    }

    private static int[] figures(long row, int number) {
        StringBuilder told = new StringBuilder(Long.toString(row));
        while (told.length() < number) {
            told.insert(0, '0');
        }
        return told.chars().map(c -> c - '0').toArray();
    }

    private static boolean isTooLong(long row, int number) {
        return row < 0 || row > 0 && Long.toString(row).length() > number;
    }

    int orders(int n, long row, int what) {
        if (n < 1 || n > 4 || what < 0 || what > 1 || isTooLong(row, 3 * n)) {
            return OUTSIDE;
        }
        int[] f = figures(row, 3 * n);
        for (int i = 0; i < n; i++) {
            if (f[3 * i] >= now.size() || f[3 * i + 1] > 1 || f[3 * i + 2] == 0) {
                return OUTSIDE;
            }
        }
        List<Integer> good = new ArrayList<>();
        tryOrders(n, f, "", now, good);
        return what == 0 ? good.size() : good.stream().min(Integer::compare).orElse(NONE);
    }

    private static void tryOrders(int n, int[] f, String done, Lane lane, List<Integer> good) {
        if (done.length() == n) {
            good.add(Integer.parseInt(done));
            return;
        }
        for (int i = n; i >= 1; i--) {
            if (done.indexOf('0' + i) < 0) {
                int house = f[3 * i - 3];
                int v = f[3 * i - 1];
                Lane then = f[3 * i - 2] == 0 ? lane.brought(house, v) : lane.taken(house, v);
                if (then != null && then.calm(1)) {
                    tryOrders(n, f, done + i, then.next(), good);
                }
            }
        }
    }

    int piano(int p) {
        if (p < 1 || p > 9) {
            return OUTSIDE;
        }
        int bits = 0;
        for (int i = 0; i < now.size(); i++) {
            Lane then = now.brought(i, p);
            bits |= now.at(i).stands && then != null && then.calm(6) ? 1 << i : 0;
        }
        return bits;
    }

    int sacks(int what) {
        if (what < 0 || what > 1) {
            return OUTSIDE;
        }
        int best = Integer.MAX_VALUE;
        for (int i = 0; i < now.size(); i++) {
            for (int j = i; j < now.size(); j++) {
                for (int a = 0; a <= 9; a++) {
                    for (int b = 0; b <= (i == j ? 0 : 9); b++) {
                        Lane then = a == 0 ? now : now.taken(i, a);
                        then = then == null || b == 0 ? then : then.taken(j, b);
                        if (then != null && then.calm(6)) {
                            int from = a + b == 0 ? 0 : a == 0 ? 11 * j : b == 0 ? 11 * i : 10 * i + j;
                            best = Math.min(best, 100 * (a + b) + from);
                        }
                    }
                }
            }
        }
        if (now.size() == 0) {
            return 0;
        }
        return best == Integer.MAX_VALUE ? NONE : what == 0 ? best / 100 : best % 100;
    }

    int judge(int n, long row) {
        if (n < 1 || n > 4 || isTooLong(row, 4 * n)) {
            return OUTSIDE;
        }
        int[] f = figures(row, 4 * n);
        Lane lane = now;
        for (int i = 0; i < n; i++) {
            lane = judged(lane, f[4 * i], f[4 * i + 1], f[4 * i + 2], f[4 * i + 3]);
            if (lane == null) {
                return i;
            }
        }
        return NONE;
    }

    private static Lane judged(Lane lane, int a, int b, int c, int d) {
        if (a == 6) {
            return lane.has(b) && lane.at(b).load >= 10 * c + d ? lane : null;
        }
        if (a > 6 || b != 0 || a != 1 && a != 2 && a != 3 && c != 0 || a == 0 && d != 0) {
            return null;
        }
        return switch (a) {
            case 0 -> lane.next();
            case 1 -> lane.brought(c, d);
            case 2 -> lane.taken(c, d);
            case 3 -> lane.deed(c, d);
            case 4 -> lane.built(d);
            default -> lane.has(d) && lane.at(d).stands ? lane : null;
        };
    }

    int see(int h, int house, int stood) {
        if (h < 1 || h > 9 || house < 0 || house > 5 || stood < 0 || stood > 1) {
            return OUTSIDE;
        }
        if (seen.size() == 6) {
            return FULL;
        }
        seen.add(new Sight(h, house, stood));
        return seen.size();
    }

    int unsee() {
        int was = seen.size();
        seen.clear();
        return was;
    }

    int night(int what) {
        if (what < 0 || what > 1) {
            return OUTSIDE;
        }
        List<Integer> all = new ArrayList<>();
        for (int i = 0; i < now.size(); i++) {
            for (int v = 1; v <= 9; v++) {
                Lane then = now.brought(i, v);
                if (then != null && seen.stream().allMatch(s -> (then.in(s.h).bits() >> s.house) % 2 == s.stood)) {
                    all.add(10 * i + v);
                }
            }
        }
        return what == 0 ? all.size() : all.isEmpty() ? NONE : all.get(0);
    }

    private static int part(long above, long below, boolean upper) {
        BigInteger a = BigInteger.valueOf(above);
        BigInteger b = BigInteger.valueOf(below);
        return (upper ? a : b).divide(a.gcd(b)).intValueExact();
    }

    int share(int i, boolean upper) {
        if (!now.has(i)) {
            return UNKNOWN;
        }
        Lane empty = now;
        for (int j = 0; j < now.size(); j++) {
            empty = empty.with(j, empty.at(j).stones(0));
        }
        long[] sum = new long[2];
        allOrders(empty, 0, i, sum);
        return part(sum[0], sum[1], upper);
    }

    private void allOrders(Lane lane, int come, int i, long[] sum) {
        if (Integer.bitCount(come) == now.size()) {
            sum[1]++;
            return;
        }
        for (int j = 0; j < now.size(); j++) {
            if ((come >> j & 1) == 0) {
                Lane then = lane.with(j, lane.at(j).stones(now.at(j).stones));
                long ordersBehind = 1;
                for (int k = 2; k < now.size() - Integer.bitCount(come); k++) {
                    ordersBehind *= k;
                }
                sum[0] += j == i ? ordersBehind * (lane.in(6).number() - then.in(6).number()) : 0;
                allOrders(then, come | 1 << j, i, sum);
            }
        }
    }

    int rests(int one, int other, int what) {
        if (!now.has(one) || !now.has(other)) {
            return UNKNOWN;
        }
        if (one == other || what < 0 || what > 1) {
            return OUTSIDE;
        }
        int[][][] has = new int[2][2][2];
        for (int a = 0; a < 2; a++) {
            for (int b = 0; b < 2; b++) {
                Lane then = now;
                then = a == 1 && then.brought(one, 3) != null ? then.brought(one, 3) : then;
                then = b == 1 && then.brought(other, 3) != null ? then.brought(other, 3) : then;
                then = then.in(4);
                has[a][b][0] = then.at(one).ground() + (then.at(one).stands ? 5 : 0) - 2 * a;
                has[a][b][1] = then.at(other).ground() + (then.at(other).stands ? 5 : 0) - 2 * b;
            }
        }
        List<Integer> rests = new ArrayList<>();
        for (int a = 0; a < 2; a++) {
            for (int b = 0; b < 2; b++) {
                if (has[1 - a][b][0] <= has[a][b][0] && has[a][1 - b][1] <= has[a][b][1]) {
                    rests.add(10 * a + b);
                }
            }
        }
        return what == 0 ? rests.size() : rests.isEmpty() ? NONE : rests.get(0);
    }

    int fails(int v, int x, boolean upper) {
        if (v < 0 || v > 6 || x < 0 || x > 10) {
            return OUTSIDE;
        }
        long below = 1;
        for (int i = 0; i < now.number(); i++) {
            below *= 10;
        }
        return part(ways(now, 0, v, x), below, upper);
    }

    private static long ways(Lane lane, int i, int v, int x) {
        if (i == lane.size()) {
            return lane.in(3).number() >= v ? 1 : 0;
        }
        if (!lane.at(i).stands) {
            return ways(lane, i + 1, v, x);
        }
        return x * ways(lane.with(i, lane.at(i).failed()), i + 1, v, x) + (10 - x) * ways(lane, i + 1, v, x);
    }

    long seed(long v) {
        long was = seed;
        seed = v;
        return was;
    }

    int years(int m) {
        if (m < 1 || m > 30) {
            return OUTSIDE;
        }
        Lane lane = now;
        int sum = 0;
        for (int i = 0; i < m; i++) {
            seed = BigInteger.valueOf(seed).multiply(new BigInteger("6364136223846793005"))
                    .add(new BigInteger("1442695040888963407")).longValue();
            BigInteger unsigned = BigInteger.valueOf(seed).and(BigInteger.TWO.pow(64).subtract(BigInteger.ONE));
            int left = unsigned.divide(BigInteger.TWO.pow(33)).intValueExact() % 40;
            Lane then;
            if (left <= 11) {
                then = lane.brought(left / 2, left % 2 == 0 ? 1 : 2);
            } else if (left <= 17) {
                then = lane.taken(left - 12, 1);
            } else if (left <= 35) {
                then = lane.deed((left - 18) / 3, (left - 18) % 3);
            } else {
                then = lane.next();
            }
            lane = then == null ? lane : then;
            sum += lane.number();
        }
        return sum;
    }

    int keep(int slot) {
        if (slot != 0 && slot != 1) {
            return UNKNOWN;
        }
        slots[slot] = now;
        return now.hour;
    }

    int again(int slot) {
        if (slot != 0 && slot != 1) {
            return UNKNOWN;
        }
        if (slots[slot] == null) {
            return STATE;
        }
        now = slots[slot];
        acts.clear();
        return now.hour;
    }

    int count(int what) {
        return switch (what) {
            case 0 -> text.length();
            case 1 -> now.size();
            case 2 -> now.bits();
            case 3 -> now.hour;
            case 4 -> now.houses.stream().mapToInt(House::stones).sum();
            case 5 -> now.houses.stream().mapToInt(House::ground).sum();
            case 6 -> now.houses.stream().filter(h -> h.stands && h.deed == 'm').mapToInt(House::gives).sum();
            case 7 -> acts.size();
            case 8 -> seen.size();
            default -> OUTSIDE;
        };
    }
}
