/**
 * All of an object that calls can show, aspect by aspect. To look changes the object, and an object lasts for 512 calls
 * alone, so each aspect is asked of an object of its own.
 */
final class Whole {
    interface Aspect {
        String of(LeanLane lane);
    }

    static final Aspect COUNTS = Check::picture;
    static final Aspect HOURS = Whole::hoursToCome;
    static final Aspect SEEN = Whole::seen;
    static final Aspect ACTS = Whole::acts;
    static final Aspect SLOTS = Whole::slots;
    static final Aspect TEXT = Whole::text;
    static final Aspect SEED = Whole::seed;

    static final Aspect[] ASPECTS = {COUNTS, HOURS, SEEN, ACTS, SLOTS, TEXT, SEED};
    static final Aspect[] ALL_BUT_TEXT = {ACTS, HOURS, SEEN, SLOTS, SEED};
    static final Aspect[] ALL_BUT_SEEN = {ACTS, HOURS, SLOTS, TEXT, SEED};
    static final Aspect[] ALL_BUT_SEED = {COUNTS, HOURS, SEEN, ACTS, SLOTS, TEXT};
    static final Aspect[] ALL_BUT_SLOTS = {COUNTS, HOURS, SEEN, ACTS, TEXT, SEED};

    private Whole() {
    }

    static String houses(LeanLane lane) {
        StringBuilder all = new StringBuilder();
        int houses = lane.count(1);
        for (int house = 0; house < houses; house++) {
            for (int what = 0; what <= 7; what++) {
                all.append(lane.house(house, what)).append(' ');
            }
        }
        return all.toString();
    }

    private static String hoursToCome(LeanLane lane) {
        StringBuilder all = new StringBuilder();
        for (int n = 0; n <= 10; n++) {
            all.append(lane.standing(n)).append(' ');
        }
        for (int house = 0; house < 6; house++) {
            all.append(lane.falls(house)).append(' ').append(lane.later(house, 3, 0)).append(' ');
        }
        for (int p = 1; p <= 9; p++) {
            all.append(lane.piano(p)).append(' ');
        }
        return all.append(lane.rings()).append(' ').append(lane.sacks(0)).append(' ').append(lane.sacks(1)).toString();
    }

    private static String seen(LeanLane lane) {
        StringBuilder all = new StringBuilder();
        all.append(lane.night(0)).append(' ').append(lane.night(1)).append(' ');
        // A quiet lane, so that more nights are left and each thing that is seen tells.
        Check.tell(lane, "AH031mH031mH031mH031mH031mH031m");
        lane.lane();
        all.append(lane.night(0)).append(' ').append(lane.night(1)).append(' ');
        return all.append(lane.count(8)).append(' ').append(lane.unsee()).append(' ').append(lane.unsee()).toString();
    }

    private static String acts(LeanLane lane) {
        StringBuilder all = new StringBuilder();
        int houses = lane.count(1);
        int left = lane.count(7);
        for (int i = 0; i < 16 && left >= 0; i++) {
            all.append(left).append(": ");
            for (int what = 2; what <= 6; what++) {
                all.append(lane.count(what)).append(' ');
            }
            for (int house = 0; house < houses; house++) {
                all.append(lane.house(house, 0)).append(' ').append(lane.house(house, 3)).append(' ');
                all.append(lane.house(house, 5)).append(' ');
            }
            left = lane.undo();
        }
        return all.append(left).toString();
    }

    private static String slots(LeanLane lane) {
        StringBuilder all = new StringBuilder();
        for (int slot = 0; slot <= 1; slot++) {
            all.append(lane.again(slot)).append(' ').append(lane.count(3)).append(' ').append(lane.count(7)).append(' ');
            all.append(houses(lane));
        }
        return all.toString();
    }

    private static String text(LeanLane lane) {
        StringBuilder all = new StringBuilder();
        all.append(lane.count(0)).append(' ').append(lane.fault()).append(' ').append(lane.lane()).append(' ');
        all.append(houses(lane));
        int more = 0;
        while (more < 65 && lane.write('A') > 0) {
            more++;
        }
        return all.append(more).append(' ').append(lane.fault()).append(' ').append(lane.wipe()).toString();
    }

    private static String seed(LeanLane lane) {
        StringBuilder all = new StringBuilder();
        all.append(lane.years(30)).append(' ').append(lane.seed(5)).append(' ');
        return all.append(lane.years(30)).append(' ').append(lane.seed(0)).toString();
    }
}
