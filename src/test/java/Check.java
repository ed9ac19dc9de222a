/** What the tests share: a lane from its text, and answers held against what is due. */
final class Check {
    private final String name;
    private int wrong;
    private int asked;

    Check(String name) {
        this.name = name;
    }

    static LeanLane told(String text) {
        LeanLane lane = new LeanLane();
        tell(lane, text);
        return lane;
    }

    static void tell(LeanLane lane, String text) {
        lane.wipe();
        for (int i = 0; i < text.length(); i++) {
            lane.write(text.charAt(i));
        }
    }

    /** A new object whose lane is the text. */
    static LeanLane made(String text) {
        LeanLane lane = told(text);
        int houses = lane.lane();
        if (houses < 0) {
            throw new IllegalStateException("not a lane: " + text);
        }
        return lane;
    }

    void due(String what, long got, long want) {
        asked++;
        if (got != want) {
            wrong++;
            System.out.println(name + ": " + what + " answered " + got + ", due is " + want);
        }
    }

    void isTrue(String what, boolean holds) {
        due(what, holds ? 1 : 0, 1);
    }

    /** All that house() and count() tell, to see that a call changes nothing. */
    static String picture(LeanLane lane) {
        StringBuilder all = new StringBuilder();
        for (int what = 0; what <= 8; what++) {
            all.append(lane.count(what)).append(' ');
        }
        for (int house = 0; house < lane.count(1); house++) {
            for (int what = 0; what <= 7; what++) {
                all.append(lane.house(house, what)).append(' ');
            }
        }
        return all.toString();
    }

    void same(String what, String before, LeanLane lane) {
        String after = picture(lane);
        isTrue(what + " changes nothing: " + before + "/ " + after, before.equals(after));
    }

    void end() {
        System.out.println(name + ": " + asked + " answers, " + wrong + " not as due");
        if (wrong != 0) {
            System.exit(1);
        }
    }
}
