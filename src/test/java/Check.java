/** What the tests share: a lane from its text, and answers held against what is due. */
final class Check {
    /** No call may fail to end, so a test that goes on for so long has failed. */
    private static final long MOST_SECONDS = 300;

    private final String name;
    private String words = "";
    private int wrong;
    private int asked;

    Check(String name) {
        this.name = name;
        watch(name);
    }

    /** A call made on an object, with its answer. */
    interface Call {
        long on(LeanLane lane);
    }

    /** Makes an object and brings it to where it is to be asked. */
    interface Maker {
        LeanLane make();
    }

    /** Ends the test with 1 if it does not end of itself. */
    static void watch(String name) {
        Thread watcher = new Thread(() -> {
            try {
                Thread.sleep(1000 * MOST_SECONDS);
            } catch (InterruptedException e) {
                return;
            }
            System.out.println(name + ": does not end");
            Runtime.getRuntime().halt(1);
        });
        watcher.setDaemon(true);
        watcher.start();
    }

    static LeanLane told(String text) {
        LeanLane lane = new LeanLane();
        tell(lane, text);
        return lane;
    }

    static void tell(LeanLane lane, String text) {
        lane.wipe();
        for (int i = 0; i < text.length(); i++) {
            lane.write(text.charAt(i));
        }
    }

    /** A new object whose lane is the text. */
    static LeanLane made(String text) {
        LeanLane lane = told(text);
        int houses = lane.lane();
        if (houses < 0) {
            throw new IllegalStateException("not a lane: " + text);
        }
        return lane;
    }

    /** The same, with so many stones more in one house, which its load does not show ahead of an hour. */
    static LeanLane heaped(String text, int house, int stones) {
        LeanLane lane = made(text);
        heap(lane, house, stones);
        return lane;
    }

    static void heap(LeanLane lane, int house, int stones) {
        for (int left = stones; left > 0; left -= 9) {
            lane.bring(house, Math.min(9, left));
        }
    }

    /** One below, one above, and the farthest from low to high. */
    static int[] outside(int low, int high) {
        return new int[] {low - 1, high + 1, Integer.MIN_VALUE, Integer.MAX_VALUE};
    }

    /** The words of the document that the answers behind this are held against. */
    void words(String sentence) {
        words = " [" + sentence + "]";
    }

    void due(String what, long got, long want) {
        asked++;
        if (got != want) {
            wrong++;
            System.out.println(name + words + ": " + what + " answered " + got + ", due is " + want);
        }
    }

    void isTrue(String what, boolean holds) {
        due(what, holds ? 1 : 0, 1);
    }

    /** The call is refused so, and nothing has changed by it. */
    void refused(String what, Maker maker, Call call, int refusal) {
        due(what, call.on(maker.make()), refusal);
        unchanged(what, maker, call, Whole.ASPECTS);
    }

    /** An object on which the call was made can not be told from one on which it was not. */
    void unchanged(String what, Maker maker, Call call, Whole.Aspect... aspects) {
        for (Whole.Aspect aspect : aspects) {
            LeanLane called = maker.make();
            call.on(called);
            String with = aspect.of(called);
            String without = aspect.of(maker.make());
            isTrue(what + " changes nothing: " + without + "/ " + with, without.equals(with));
        }
    }

    /** All that house() and count() tell, to see that a call changes nothing. */
    static String picture(LeanLane lane) {
        StringBuilder all = new StringBuilder();
        for (int what = 0; what <= 8; what++) {
            all.append(lane.count(what)).append(' ');
        }
        return all.append(Whole.houses(lane)).toString();
    }

    void same(String what, String before, LeanLane lane) {
        String after = picture(lane);
        isTrue(what + " changes nothing: " + before + "/ " + after, before.equals(after));
    }

    void end() {
        System.out.println(name + ": " + asked + " answers, " + wrong + " not as due");
        if (wrong != 0) {
            System.exit(1);
        }
    }
}
