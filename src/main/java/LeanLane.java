/** A lane of houses that lean on one another by deed. ../shared/DOC.md says what each call promises. */
public final class LeanLane {
    public static final int UNKNOWN = -1, OUTSIDE = -2, STATE = -3, FULL = -4, NONE = -9;

    private static final int MOST_LETTERS = 64;
    private static final int MOST_HOUSES = 6;
    private static final int MOST_STONES = 99;
    private static final int MOST_ACTS = 14;
    private static final int MOST_SEEN = 6;
    private static final int MOST_SLOTS = 2;
    private static final int MOST_CARRIED = 9;
    private static final int MOST_MOVES = 4;
    private static final int MOST_HOURS = 30;
    private static final int MOST_YEARS = 30;
    private static final int MOST_NIGHT_HOURS = 9;

    private static final int TOO_MANY_SACKS = 2 * MOST_CARRIED + 1;

    private static final int CALM_HOURS = 6;
    private static final int SHARE_HOURS = 6;
    private static final int REST_HOURS = 4;
    private static final int FAIL_HOURS = 3;

    private static final int MOVE_FIGURES = 3;
    private static final int DOING_FIGURES = 4;

    private final Text text;
    private final Lane now;
    /** Every question about what would be is played here, so that no call makes an object. */
    private final Lane trial;
    private final Past past;
    private final Sightings seen;
    private final Lane[] slots;
    private int keptSlots;
    private long theSeed;

    public LeanLane() {
        text = new Text();
        now = new Lane();
        trial = new Lane();
        past = new Past();
        seen = new Sightings();
        slots = new Lane[MOST_SLOTS];
        for (int slot = 0; slot < MOST_SLOTS; slot++) {
            slots[slot] = new Lane();
        }
    }

    // ---- the lane

    public int write(int letter) {
        if (letter < 0 || letter > 255) {
            return OUTSIDE;
        }
        return text.append(letter) ? text.length() : FULL;
    }

    public int wipe() {
        return text.clear();
    }

    public int fault() {
        return text.firstFault();
    }

    public int lane() {
        if (text.firstFault() != NONE) {
            return STATE;
        }
        now.readFrom(text);
        past.clear();
        keptSlots = 0;
        return now.size();
    }

    public int house(int house, int what) {
        if (!now.has(house)) {
            return UNKNOWN;
        }
        switch (what) {
            case 0: return now.kindOf(house);
            case 1: return now.stonesOf(house);
            case 2: return now.strengthOf(house);
            case 3: return now.deedOf(house);
            case 4: return now.stands(house) ? 1 : 0;
            case 5: return now.loadOf(house);
            case 6: return now.givesOf(house);
            case 7: return now.groundOf(house);
            default: return OUTSIDE;
        }
    }

    // ---- acts

    public int hour() {
        past.remember(now);
        return now.passHour();
    }

    public int bring(int house, int v) {
        if (!now.has(house)) {
            return UNKNOWN;
        }
        if (!isCarried(v)) {
            return OUTSIDE;
        }
        if (!now.canAdd(house, v)) {
            return FULL;
        }
        past.remember(now);
        now.addStones(house, v);
        return now.stonesOf(house);
    }

    public int take(int house, int v) {
        if (!now.has(house)) {
            return UNKNOWN;
        }
        if (!isCarried(v)) {
            return OUTSIDE;
        }
        if (!now.canRemove(house, v)) {
            return STATE;
        }
        past.remember(now);
        now.removeStones(house, v);
        return now.stonesOf(house);
    }

    public int deed(int house, int d) {
        if (!now.has(house)) {
            return UNKNOWN;
        }
        if (!Lane.isDeed(d)) {
            return OUTSIDE;
        }
        int before = now.deedOf(house);
        if (before == d) {
            return STATE;
        }
        past.remember(now);
        now.writeDeed(house, d);
        return before;
    }

    public int build(int house) {
        if (!now.has(house)) {
            return UNKNOWN;
        }
        if (now.stands(house)) {
            return STATE;
        }
        past.remember(now);
        now.raise(house);
        return now.stonesOf(house);
    }

    public int undo() {
        if (past.size() == 0) {
            return STATE;
        }
        past.goBack(now);
        return past.size();
    }

    // ---- hours to come

    public int later(int house, int n, int what) {
        if (!now.has(house)) {
            return UNKNOWN;
        }
        if (n < 0 || n > MOST_HOURS || !isHalf(what)) {
            return OUTSIDE;
        }
        trial.copyFrom(now);
        trial.passHours(n);
        return what == 0 ? trial.loadOf(house) : trial.groundOf(house);
    }

    public int standing(int n) {
        if (n < 0 || n > MOST_HOURS) {
            return OUTSIDE;
        }
        trial.copyFrom(now);
        trial.passHours(n);
        return trial.standingBits();
    }

    public int falls(int house) {
        if (!now.has(house)) {
            return UNKNOWN;
        }
        if (!now.stands(house)) {
            return STATE;
        }
        trial.copyFrom(now);
        for (int passed = 1; passed <= MOST_HOURS; passed++) {
            trial.passHour();
            if (!trial.stands(house)) {
                return passed;
            }
        }
        return NONE;
    }

    public int rings() {
        return now.ringBits();
    }

    public int orders(int n, long row, int what) {
        if (n < 1 || n > MOST_MOVES || !isHalf(what) || !areMoves(n, row)) {
            return OUTSIDE;
        }
        int found = 0;
        int first = NONE;
        // Two bits a place: the codes rise as the orders' numbers do, so the first found is the least.
        for (int code = 0; code < 1 << 2 * n; code++) {
            if (isOrder(n, code) && isSafeOrder(n, row, code)) {
                found++;
                first = first == NONE ? orderNumber(n, code) : first;
            }
        }
        return what == 0 ? found : first;
    }

    private boolean areMoves(int n, long row) {
        int figures = MOVE_FIGURES * n;
        if (!hasFigures(row, figures)) {
            return false;
        }
        for (int at = 0; at < figures; at += MOVE_FIGURES) {
            boolean isMove = now.has(figure(row, figures, at))
                    && isHalf(figure(row, figures, at + 1))
                    && isCarried(figure(row, figures, at + 2));
            if (!isMove) {
                return false;
            }
        }
        return true;
    }

    private static int moveAt(int n, int code, int place) {
        return code >> 2 * (n - 1 - place) & 3;
    }

    private static boolean isOrder(int n, int code) {
        int moved = 0;
        for (int place = 0; place < n; place++) {
            moved |= 1 << moveAt(n, code, place);
        }
        return moved == (1 << n) - 1;
    }

    private static int orderNumber(int n, int code) {
        int number = 0;
        for (int place = 0; place < n; place++) {
            number = 10 * number + moveAt(n, code, place) + 1;
        }
        return number;
    }

    private boolean isSafeOrder(int n, long row, int code) {
        trial.copyFrom(now);
        for (int place = 0; place < n; place++) {
            if (!canMove(n, row, moveAt(n, code, place)) || trial.passHour() > 0) {
                return false;
            }
        }
        return true;
    }

    private boolean canMove(int n, long row, int move) {
        int figures = MOVE_FIGURES * n;
        int at = MOVE_FIGURES * move;
        int house = figure(row, figures, at);
        int v = figure(row, figures, at + 2);
        return figure(row, figures, at + 1) == 0 ? trial.addStones(house, v) : trial.removeStones(house, v);
    }

    public int piano(int p) {
        if (!isCarried(p)) {
            return OUTSIDE;
        }
        int bits = 0;
        for (int house = 0; house < now.size(); house++) {
            trial.copyFrom(now);
            if (trial.stands(house) && trial.addStones(house, p) && trial.staysCalm(CALM_HOURS)) {
                bits |= 1 << house;
            }
        }
        return bits;
    }

    public int sacks(int what) {
        if (!isHalf(what)) {
            return OUTSIDE;
        }
        trial.copyFrom(now);
        if (trial.staysCalm(CALM_HOURS)) {
            return 0;
        }
        int fewest = TOO_MANY_SACKS;
        int from = NONE;
        // The pairs' numbers rise, so of like ones the first found is the least.
        for (int one = 0; one < now.size(); one++) {
            for (int other = one; other < now.size(); other++) {
                int total = one == other ? fewestFromOne(one, fewest) : fewestFromTwo(one, other, fewest);
                if (total < fewest) {
                    fewest = total;
                    from = 10 * one + other;
                }
            }
        }
        return what == 0 && from != NONE ? fewest : from;
    }

    private int fewestFromOne(int house, int limit) {
        for (int v = 1; v <= mostTaken(house) && v < limit; v++) {
            if (isCalmWithout(house, v, house, 0)) {
                return v;
            }
        }
        return limit;
    }

    private int fewestFromTwo(int one, int other, int limit) {
        int mostOfOne = mostTaken(one);
        int mostOfOther = mostTaken(other);
        // Fewer stones never make a house fall, so where the most taken does not help, nothing does.
        if (!isCalmWithout(one, mostOfOne, other, mostOfOther)) {
            return limit;
        }
        int fewest = limit;
        for (int v = 1; v <= mostOfOne; v++) {
            for (int w = 1; w <= mostOfOther && v + w < fewest; w++) {
                if (isCalmWithout(one, v, other, w)) {
                    fewest = v + w;
                }
            }
        }
        return fewest;
    }

    private int mostTaken(int house) {
        return Math.min(MOST_CARRIED, now.stonesOf(house));
    }

    private boolean isCalmWithout(int one, int v, int other, int w) {
        trial.copyFrom(now);
        trial.removeStones(one, v);
        trial.removeStones(other, w);
        return trial.staysCalm(CALM_HOURS);
    }

    public int judge(int n, long row) {
        if (n < 1 || n > MOST_MOVES || !hasFigures(row, DOING_FIGURES * n)) {
            return OUTSIDE;
        }
        trial.copyFrom(now);
        for (int place = 0; place < n; place++) {
            if (!canBe(row, DOING_FIGURES * n, DOING_FIGURES * place)) {
                return place;
            }
        }
        return NONE;
    }

    private boolean canBe(long row, int figures, int at) {
        int second = figure(row, figures, at + 1);
        int third = figure(row, figures, at + 2);
        int last = figure(row, figures, at + 3);
        switch (figure(row, figures, at)) {
            case 0: return second == 0 && third == 0 && last == 0 && trial.passHour() >= 0;
            case 1: return second == 0 && trial.addStones(third, last);
            case 2: return second == 0 && trial.removeStones(third, last);
            case 3: return second == 0 && trial.writeDeed(third, last);
            case 4: return second == 0 && third == 0 && trial.raise(last);
            case 5: return second == 0 && third == 0 && trial.stands(last);
            case 6: return trial.has(second) && trial.loadOf(second) >= 10 * third + last;
            default: return false;
        }
    }

    // ---- seen

    public int see(int h, int house, int stood) {
        if (h < 1 || h > MOST_NIGHT_HOURS || house < 0 || house >= MOST_HOUSES || !isHalf(stood)) {
            return OUTSIDE;
        }
        return seen.add(h, house, stood) ? seen.size() : FULL;
    }

    public int unsee() {
        return seen.clear();
    }

    public int night(int what) {
        if (!isHalf(what)) {
            return OUTSIDE;
        }
        int found = 0;
        int first = NONE;
        for (int house = 0; house < now.size(); house++) {
            for (int v = 1; v <= MOST_CARRIED; v++) {
                if (explainsSeen(house, v)) {
                    found++;
                    first = first == NONE ? 10 * house + v : first;
                }
            }
        }
        return what == 0 ? found : first;
    }

    private boolean explainsSeen(int house, int v) {
        trial.copyFrom(now);
        if (!trial.addStones(house, v)) {
            return false;
        }
        for (int passed = 1; passed <= MOST_NIGHT_HOURS; passed++) {
            trial.passHour();
            if (!seen.agrees(passed, trial)) {
                return false;
            }
        }
        return true;
    }

    // ---- shares, rests, chances

    public int share(int house, boolean upper) {
        if (!now.has(house)) {
            return UNKNOWN;
        }
        int others = now.size() - 1;
        int above = 0;
        for (int come = 0; come < 1 << now.size(); come++) {
            if ((come >> house & 1) == 0) {
                int ahead = Integer.bitCount(come);
                int fewer = standingWithStonesOf(come) - standingWithStonesOf(come | 1 << house);
                above += fewer * factorial(ahead) * factorial(others - ahead);
            }
        }
        return partOfFraction(above, factorial(now.size()), upper);
    }

    private int standingWithStonesOf(int houses) {
        trial.copyFrom(now);
        trial.emptyAllBut(houses);
        trial.passHours(SHARE_HOURS);
        return Integer.bitCount(trial.standingBits());
    }

    public int rests(int one, int other, int what) {
        if (!now.has(one) || !now.has(other)) {
            return UNKNOWN;
        }
        if (one == other || !isHalf(what)) {
            return OUTSIDE;
        }
        int found = 0;
        int first = NONE;
        for (int a = 0; a <= 1; a++) {
            for (int b = 0; b <= 1; b++) {
                if (prefers(one, a, other, b) && prefers(other, b, one, a)) {
                    found++;
                    first = first == NONE ? 10 * a + b : first;
                }
            }
        }
        return what == 0 ? found : first;
    }

    private boolean prefers(int house, int choice, int rival, int rivalChoice) {
        return gain(house, choice, rival, rivalChoice) >= gain(house, 1 - choice, rival, rivalChoice);
    }

    private int gain(int house, int choice, int rival, int rivalChoice) {
        trial.copyFrom(now);
        if (choice == 1) {
            trial.addStones(house, 3);
        }
        if (rivalChoice == 1) {
            trial.addStones(rival, 3);
        }
        trial.passHours(REST_HOURS);
        return trial.groundOf(house) + (trial.stands(house) ? 5 : 0) - 2 * choice;
    }

    public int fails(int v, int x, boolean upper) {
        if (v < 0 || v > MOST_HOUSES || x < 0 || x > 10) {
            return OUTSIDE;
        }
        int deeds = Integer.bitCount(now.standingBits());
        int above = 0;
        for (int failed = 0; failed < 1 << now.size(); failed++) {
            boolean canFail = (failed & ~now.standingBits()) == 0;
            if (canFail && standingWithFailed(failed) >= v) {
                int failing = Integer.bitCount(failed);
                above += power(x, failing) * power(10 - x, deeds - failing);
            }
        }
        return partOfFraction(above, power(10, deeds), upper);
    }

    private int standingWithFailed(int houses) {
        trial.copyFrom(now);
        trial.failDeeds(houses);
        trial.passHours(FAIL_HOURS);
        return Integer.bitCount(trial.standingBits());
    }

    public long seed(long v) {
        long before = theSeed;
        theSeed = v;
        return before;
    }

    public int years(int m) {
        if (m < 1 || m > MOST_YEARS) {
            return OUTSIDE;
        }
        trial.copyFrom(now);
        int together = 0;
        for (int year = 0; year < m; year++) {
            theSeed = theSeed * 6364136223846793005L + 1442695040888963407L;
            playYear((int) ((theSeed >>> 33) % 40));
            together += Integer.bitCount(trial.standingBits());
        }
        return together;
    }

    private void playYear(int lot) {
        if (lot < 12) {
            trial.addStones(lot / 2, 1 + lot % 2);
        } else if (lot < 18) {
            trial.removeStones(lot - 12, 1);
        } else if (lot < 36) {
            trial.writeDeed((lot - 18) / 3, (lot - 18) % 3);
        } else {
            trial.passHour();
        }
    }

    // ---- slots

    public int keep(int slot) {
        if (slot < 0 || slot >= MOST_SLOTS) {
            return UNKNOWN;
        }
        slots[slot].copyFrom(now);
        keptSlots |= 1 << slot;
        return now.hoursPassed();
    }

    public int again(int slot) {
        if (slot < 0 || slot >= MOST_SLOTS) {
            return UNKNOWN;
        }
        if ((keptSlots >> slot & 1) == 0) {
            return STATE;
        }
        now.copyFrom(slots[slot]);
        past.clear();
        return now.hoursPassed();
    }

    public int count(int what) {
        switch (what) {
            case 0: return text.length();
            case 1: return now.size();
            case 2: return now.standingBits();
            case 3: return now.hoursPassed();
            case 4: return now.allStones();
            case 5: return now.allGround();
            case 6: return now.monkLoad();
            case 7: return past.size();
            case 8: return seen.size();
            default: return OUTSIDE;
        }
    }

    // ---- numbers

    private static boolean isHalf(int number) {
        return number == 0 || number == 1;
    }

    private static boolean isCarried(int v) {
        return v >= 1 && v <= MOST_CARRIED;
    }

    private static boolean hasFigures(long row, int figures) {
        long rest = row;
        for (int i = 0; i < figures; i++) {
            rest /= 10;
        }
        return row >= 0 && rest == 0;
    }

    /** The figure at a place, counted from the left, of a row that is told without its first zeros. */
    private static int figure(long row, int figures, int place) {
        long rest = row;
        for (int i = figures - 1; i > place; i--) {
            rest /= 10;
        }
        return (int) (rest % 10);
    }

    private static int power(int base, int exponent) {
        int product = 1;
        for (int i = 0; i < exponent; i++) {
            product *= base;
        }
        return product;
    }

    private static int factorial(int number) {
        int product = 1;
        for (int i = 2; i <= number; i++) {
            product *= i;
        }
        return product;
    }

    private static int partOfFraction(int above, int below, boolean upper) {
        int divisor = commonDivisor(Math.abs(above), below);
        return (upper ? above : below) / divisor;
    }

    private static int commonDivisor(int one, int other) {
        int greater = one;
        int lesser = other;
        // Euclid's steps on ints are fewer than fifty.
        for (int step = 0; step < 64 && lesser != 0; step++) {
            int left = greater % lesser;
            greater = lesser;
            lesser = left;
        }
        return Math.max(1, greater);
    }

    /** The letters that are told, and where they stop being a lane. */
    private static final class Text {
        private static final int HOUSE_LETTERS = 5;
        private static final int LONGEST_LANE = 1 + HOUSE_LETTERS * MOST_HOUSES;

        private final char[] letters = new char[MOST_LETTERS];
        private int length;

        int length() {
            return length;
        }

        boolean append(int letter) {
            if (length >= MOST_LETTERS) {
                return false;
            }
            letters[length] = (char) letter;
            length++;
            return true;
        }

        int clear() {
            int before = length;
            length = 0;
            return before;
        }

        int firstFault() {
            for (int place = 0; place < length; place++) {
                if (!fits(letters[place], place)) {
                    return place;
                }
            }
            return length % HOUSE_LETTERS == 1 ? NONE : length;
        }

        private static boolean fits(char letter, int place) {
            if (place == 0) {
                return letter == 'A';
            }
            if (place >= LONGEST_LANE) {
                return false;
            }
            switch ((place - 1) % HOUSE_LETTERS) {
                case 0: return letter == 'H';
                case 1: return letter >= '0' && letter <= '4';
                case 4: return letter == 'l' || letter == 'r' || letter == 'm';
                default: return letter >= '0' && letter <= '9';
            }
        }

        int houses() {
            return Math.min(MOST_HOUSES, length / HOUSE_LETTERS);
        }

        /** What a house's letter says: 0 its kind, 1 its stones, 2 its strength. */
        int numberOf(int house, int part) {
            return letterOf(house, part) - '0';
        }

        int deedOf(int house) {
            char letter = letterOf(house, 3);
            if (letter == 'l') {
                return Lane.ON_AHEAD;
            }
            return letter == 'r' ? Lane.ON_NEXT : Lane.ON_MONK;
        }

        private char letterOf(int house, int part) {
            int place = 2 + HOUSE_LETTERS * house + part;
            return place >= 0 && place < length ? letters[place] : '0';
        }
    }

    /** Houses with their loads at one hour, and the rules by which they change. */
    private static final class Lane {
        static final int LEASED = 0, HOLLOW = 1, HOLY = 2, UPSIDE_DOWN = 3, UNBUILT = 4;
        static final int ON_AHEAD = 0, ON_NEXT = 1, ON_MONK = 2;
        private static final int ON_NOTHING = 3;

        /** No numbers of houses: stands() says no to both, so neither is ever looked up in a row. */
        private static final int NOWHERE = -1, MONK = -2;

        private final int[] kinds = new int[MOST_HOUSES];
        private final int[] stones = new int[MOST_HOUSES];
        private final int[] strengths = new int[MOST_HOUSES];
        private final int[] deeds = new int[MOST_HOUSES];
        /** Told and passed on only of houses that stand; what is left here of a fallen one is never read. */
        private final int[] loads = new int[MOST_HOUSES];
        private final int[] coming = new int[MOST_HOUSES];
        private int houses;
        private int up;
        private int passed;

        void copyFrom(Lane other) {
            System.arraycopy(other.kinds, 0, kinds, 0, MOST_HOUSES);
            System.arraycopy(other.stones, 0, stones, 0, MOST_HOUSES);
            System.arraycopy(other.strengths, 0, strengths, 0, MOST_HOUSES);
            System.arraycopy(other.deeds, 0, deeds, 0, MOST_HOUSES);
            System.arraycopy(other.loads, 0, loads, 0, MOST_HOUSES);
            houses = other.houses;
            up = other.up;
            passed = other.passed;
        }

        void readFrom(Text text) {
            houses = text.houses();
            up = 0;
            passed = 0;
            for (int house = 0; house < houses; house++) {
                kinds[house] = text.numberOf(house, 0);
                stones[house] = text.numberOf(house, 1);
                strengths[house] = text.numberOf(house, 2);
                deeds[house] = text.deedOf(house);
                if (kinds[house] != UNBUILT) {
                    standUp(house);
                }
            }
        }

        private void standUp(int house) {
            up |= 1 << house;
            loads[house] = stones[house];
        }

        int size() {
            return houses;
        }

        boolean has(int house) {
            return house >= 0 && house < houses;
        }

        boolean stands(int house) {
            return house >= 0 && house < houses && (up >> house & 1) == 1;
        }

        int standingBits() {
            return up;
        }

        int hoursPassed() {
            return passed;
        }

        int kindOf(int house) {
            return has(house) ? kinds[house] : NONE;
        }

        int stonesOf(int house) {
            return has(house) ? stones[house] : 0;
        }

        int strengthOf(int house) {
            return has(house) ? strengths[house] : 0;
        }

        int deedOf(int house) {
            return has(house) ? deeds[house] : ON_NOTHING;
        }

        int loadOf(int house) {
            return stands(house) ? loads[house] : 0;
        }

        int givesOf(int house) {
            return stands(house) ? given(kinds[house], loads[house]) : 0;
        }

        int groundOf(int house) {
            return loadOf(house) - givesOf(house);
        }

        private static int given(int kind, int load) {
            switch (kind) {
                case LEASED: return load / 2;
                case HOLLOW: return load > 3 ? load - 3 : 0;
                case UPSIDE_DOWN: return load - load / 2;
                default: return 0;
            }
        }

        /** It may lie outside the row: what leans on it asks whether it stands. */
        private int supportOf(int house) {
            if (house < 0 || house >= houses) {
                return NOWHERE;
            }
            switch (deeds[house]) {
                case ON_AHEAD: return house - 1;
                case ON_NEXT: return house + 1;
                case ON_MONK: return MONK;
                default: return NOWHERE;
            }
        }

        int passHour() {
            passLoads();
            int falling = fallingBits();
            up &= ~falling;
            passed++;
            return Integer.bitCount(falling);
        }

        void passHours(int hours) {
            for (int i = 0; i < hours; i++) {
                passHour();
            }
        }

        /** All that is given is reckoned from the loads of before, so the new ones wait in a row of their own. */
        private void passLoads() {
            System.arraycopy(stones, 0, coming, 0, houses);
            for (int house = 0; house < houses; house++) {
                int support = supportOf(house);
                if (stands(house) && stands(support)) {
                    coming[support] += given(kinds[house], loads[house]);
                }
            }
            System.arraycopy(coming, 0, loads, 0, houses);
        }

        private int fallingBits() {
            int bits = 0;
            for (int house = 0; house < houses; house++) {
                int support = supportOf(house);
                boolean held = kinds[house] == HOLY || support == MONK || stands(support);
                int ground = loads[house] - given(kinds[house], loads[house]);
                if (stands(house) && (!held || ground > 3 * strengths[house])) {
                    bits |= 1 << house;
                }
            }
            return bits;
        }

        boolean staysCalm(int hours) {
            for (int i = 0; i < hours; i++) {
                if (passHour() > 0) {
                    return false;
                }
            }
            return true;
        }

        boolean canAdd(int house, int v) {
            return has(house) && isCarried(v) && stones[house] + v <= MOST_STONES;
        }

        boolean addStones(int house, int v) {
            if (!canAdd(house, v)) {
                return false;
            }
            stones[house] += v;
            return true;
        }

        boolean canRemove(int house, int v) {
            return has(house) && isCarried(v) && stones[house] >= v;
        }

        boolean removeStones(int house, int v) {
            if (!canRemove(house, v)) {
                return false;
            }
            stones[house] -= v;
            return true;
        }

        static boolean isDeed(int d) {
            return d >= ON_AHEAD && d <= ON_MONK;
        }

        boolean writeDeed(int house, int d) {
            if (!has(house) || !isDeed(d) || deeds[house] == d) {
                return false;
            }
            deeds[house] = d;
            return true;
        }

        boolean raise(int house) {
            if (!has(house) || stands(house)) {
                return false;
            }
            if (kinds[house] == UNBUILT) {
                kinds[house] = LEASED;
            }
            standUp(house);
            return true;
        }

        void emptyAllBut(int bits) {
            for (int house = 0; house < houses; house++) {
                if ((bits >> house & 1) == 0) {
                    stones[house] = 0;
                }
            }
        }

        void failDeeds(int bits) {
            for (int house = 0; house < houses; house++) {
                if ((bits >> house & 1) == 1) {
                    deeds[house] = ON_NOTHING;
                }
            }
        }

        /** Only neighbours can lean on one another, so a ring is a pair. */
        int ringBits() {
            int bits = 0;
            for (int house = 0; house + 1 < houses; house++) {
                if (deeds[house] == ON_NEXT && deeds[house + 1] == ON_AHEAD) {
                    bits |= 3 << house;
                }
            }
            return bits;
        }

        int allStones() {
            int sum = 0;
            for (int house = 0; house < houses; house++) {
                sum += stones[house];
            }
            return sum;
        }

        int allGround() {
            int sum = 0;
            for (int house = 0; house < houses; house++) {
                sum += groundOf(house);
            }
            return sum;
        }

        int monkLoad() {
            int sum = 0;
            for (int house = 0; house < houses; house++) {
                if (supportOf(house) == MONK) {
                    sum += givesOf(house);
                }
            }
            return sum;
        }
    }

    /** The lane as it was ahead of each act; a circle, so that forgetting the first moves nothing. */
    private static final class Past {
        private final Lane[] lanes = new Lane[MOST_ACTS];
        private int first;
        private int size;

        Past() {
            for (int i = 0; i < MOST_ACTS; i++) {
                lanes[i] = new Lane();
            }
        }

        int size() {
            return size;
        }

        void clear() {
            size = 0;
        }

        void remember(Lane lane) {
            if (size == MOST_ACTS) {
                first = (first + 1) % MOST_ACTS;
                size--;
            }
            lanes[(first + size) % MOST_ACTS].copyFrom(lane);
            size++;
        }

        void goBack(Lane lane) {
            if (size > 0) {
                size--;
                lane.copyFrom(lanes[(first + size) % MOST_ACTS]);
            }
        }
    }

    /** What was seen of houses behind the hours of a night. */
    private static final class Sightings {
        private final int[] hours = new int[MOST_SEEN];
        private final int[] houses = new int[MOST_SEEN];
        private final int[] stood = new int[MOST_SEEN];
        private int size;

        int size() {
            return size;
        }

        int clear() {
            int before = size;
            size = 0;
            return before;
        }

        boolean add(int hours, int house, int stood) {
            if (size >= MOST_SEEN) {
                return false;
            }
            this.hours[size] = hours;
            this.houses[size] = house;
            this.stood[size] = stood;
            size++;
            return true;
        }

        /** A house that is not there did not stand. */
        boolean agrees(int passed, Lane lane) {
            for (int i = 0; i < size; i++) {
                if (hours[i] == passed && lane.stands(houses[i]) != (stood[i] == 1)) {
                    return false;
                }
            }
            return true;
        }
    }
}
