/** What the tests of the promises are made of. */
abstract class Promises {

    static final int MIN = Integer.MIN_VALUE;
    static final int MAX = Integer.MAX_VALUE;
    static final int[] NO_REELS = {-1, 4, MIN, MAX};
    static final int[] NO_LENGTHS = {0, -1, 100, MIN, MAX};
    static final int[] NO_COLOURS = {-1, 8, MIN, MAX};

    /** Makes an object whose reels 0, 1 .. hold the segments of the texts, such as "12a5a99h". */
    static RibbonQuarry with(String... reels) {
        RibbonQuarry x = new RibbonQuarry();
        for (int reel = 0; reel < reels.length; reel++) {
            fill(x, reel, reels[reel]);
        }
        return x;
    }

    static void fill(RibbonQuarry x, int reel, String segments) {
        int length = 0;
        for (char sign : segments.toCharArray()) {
            if (sign >= 'a') {
                x.append(reel, length, sign - 'a');
                length = 0;
            } else {
                length = length * 10 + (sign - '0');
            }
        }
    }

    static RibbonQuarry withFull(int reel) {
        RibbonQuarry x = new RibbonQuarry();
        fill(x, reel, "1a".repeat(60));
        return x;
    }

    static void due(Object want, Object got) {
        Checks.due(want, got);
    }

    static void dueReels(RibbonQuarry x, String... reels) {
        for (int reel = 0; reel < reels.length; reel++) {
            due("[" + reels[reel] + "]", Look.reel(x, reel));
        }
    }

    static void index(RibbonQuarry x, Checks.Call call) {
        Checks.dueThrow(Checks.INDEX, x, call);
    }

    static void argument(RibbonQuarry x, Checks.Call call) {
        Checks.dueThrow(Checks.ARGUMENT, x, call);
    }

    static void state(RibbonQuarry x, Checks.Call call) {
        Checks.dueThrow(Checks.STATE, x, call);
    }

    static void element(RibbonQuarry x, Checks.Call call) {
        Checks.dueThrow(Checks.ELEMENT, x, call);
    }

    static void typeAll(RibbonQuarry x, String text) {
        for (char sign : text.toCharArray()) {
            x.type(sign);
        }
    }

    static int runAll(RibbonQuarry x, String text) {
        typeAll(x, text);
        return x.run();
    }

    /** What run() does besides its exception is for the caller to check. */
    static void runThrows(Class<?> want, RibbonQuarry x, String text) {
        typeAll(x, text);
        due(want.getSimpleName(), Checks.outcome(x::run));
    }

    /** A reel of 60 segments whose lengths are 1, 2 .. 60 and whose colours go round. */
    static RibbonQuarry withStairs() {
        RibbonQuarry x = new RibbonQuarry();
        for (int length = 1; length <= 60; length++) {
            x.append(1, length, length % 8);
        }
        return x;
    }

    interface RangeCall {
        Object answer(int first, int last);
    }

    /** For a reel with five segments. */
    static void dueRangeExceptions(RibbonQuarry x, RangeCall call) {
        for (int position : new int[] {-1, 5, MIN, MAX}) {
            index(x, () -> call.answer(position, 4));
            index(x, () -> call.answer(0, position));
            index(x, () -> call.answer(position, 0));
            index(x, () -> call.answer(4, position));
        }
        argument(x, () -> call.answer(1, 0));
        argument(x, () -> call.answer(4, 0));
        argument(x, () -> call.answer(4, 3));
    }
}
