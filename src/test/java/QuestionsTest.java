/** Promises 14 to 33: lengths, colours and tangles, comparisons, totals. */
public final class QuestionsTest extends Promises {

    public static void main(String[] args) {
        reelLength();
        lengthBefore();
        lengthBeforeByScan();
        positionAt();
        rangeLength();
        longestInRange();
        segmentAtRank();
        totalLength();
        tangleCount();
        tangleCountByScan();
        isTangled();
        longestRun();
        nextOfColour();
        colourLength();
        colourAtRank();
        isSymmetric();
        commonBeginning();
        areEqual();
        cutCount();
        spliceCount();
        whatStoodBehindTheEnd();
        Checks.end();
    }

    // ---- 14 to 21: lengths

    private static void reelLength() {
        Checks.begin("promise 14");
        RibbonQuarry x = with("1a99b50c");
        due(150, x.reelLength(0));
        due(0, x.reelLength(3));
        due(1830, withStairs().reelLength(1));
        for (int reel : NO_REELS) {
            index(x, () -> x.reelLength(reel));
        }
    }

    private static void lengthBefore() {
        Checks.begin("promise 15");
        RibbonQuarry x = withStairs();
        for (int position = 0; position <= 60; position++) {
            due(position * (position + 1) / 2, x.lengthBefore(1, position));
        }
        x.remove(1, 0);
        x.retie(1, 30, 99);
        due(59 * 62 / 2 + 99 - 32, x.lengthBefore(1, 59));
        index(x, () -> x.lengthBefore(1, 60));
        due(0, x.lengthBefore(0, 0));
        for (int position : new int[] {-1, 1, MIN, MAX}) {
            index(x, () -> x.lengthBefore(0, position));
        }
        for (int reel : NO_REELS) {
            index(x, () -> x.lengthBefore(reel, 0));
        }
    }

    private static void lengthBeforeByScan() {
        Checks.begin("promise 16");
        RibbonQuarry x = withStairs();
        for (int position = 0; position <= 60; position++) {
            due(position * (position + 1) / 2, x.lengthBeforeByScan(1, position));
        }
        index(x, () -> x.lengthBeforeByScan(1, 61));
        due(0, x.lengthBeforeByScan(0, 0));
        for (int position : new int[] {-1, 1, MIN, MAX}) {
            index(x, () -> x.lengthBeforeByScan(0, position));
        }
        for (int reel : NO_REELS) {
            index(x, () -> x.lengthBeforeByScan(reel, 0));
        }
    }

    private static void positionAt() {
        Checks.begin("promise 17");
        RibbonQuarry x = with("1a99b50c");
        due(0, x.positionAt(0, 0));
        due(1, x.positionAt(0, 1));
        due(1, x.positionAt(0, 99));
        due(2, x.positionAt(0, 100));
        due(2, x.positionAt(0, 149));
        due(59, withStairs().positionAt(1, 1829));
        for (int offset : new int[] {-1, 150, MIN, MAX}) {
            element(x, () -> x.positionAt(0, offset));
        }
        element(x, () -> x.positionAt(1, 0));
        for (int reel : NO_REELS) {
            index(x, () -> x.positionAt(reel, -1));
        }
    }

    private static void rangeLength() {
        Checks.begin("promise 18");
        RibbonQuarry x = with("1a2b3c4d50e");
        due(60, x.rangeLength(0, 0, 4));
        due(3, x.rangeLength(0, 2, 2));
        due(54, x.rangeLength(0, 3, 4));
        due(3, x.rangeLength(0, 0, 1));
        dueRangeExceptions(x, (first, last) -> x.rangeLength(0, first, last));
        for (int reel : NO_REELS) {
            index(x, () -> x.rangeLength(reel, 1, 0));
        }
        index(x, () -> x.rangeLength(1, 0, 0));
    }

    private static void longestInRange() {
        Checks.begin("promise 19");
        RibbonQuarry x = with("5h9a3c9d1e");
        due(1, x.longestInRange(0, 0, 4));
        due(1, x.longestInRange(0, 1, 3));
        due(3, x.longestInRange(0, 2, 4));
        due(3, x.longestInRange(0, 2, 3));
        due(0, x.longestInRange(0, 0, 0));
        due(4, x.longestInRange(0, 4, 4));
        dueRangeExceptions(x, (first, last) -> x.longestInRange(0, first, last));
        for (int reel : NO_REELS) {
            index(x, () -> x.longestInRange(reel, 1, 0));
        }
    }

    private static void segmentAtRank() {
        Checks.begin("promise 20");
        RibbonQuarry x = with("5a9a5h99b5c");
        int[] order = {3, 1, 0, 2, 4};
        for (int rank = 0; rank < 5; rank++) {
            due(order[rank], x.segmentAtRank(0, rank));
        }
        due(0, withStairs().segmentAtRank(1, 59));
        for (int rank : new int[] {-1, 5, MIN, MAX}) {
            element(x, () -> x.segmentAtRank(0, rank));
        }
        element(x, () -> x.segmentAtRank(1, 0));
        for (int reel : NO_REELS) {
            index(x, () -> x.segmentAtRank(reel, -1));
        }
    }

    private static void totalLength() {
        Checks.begin("promise 21");
        due(0L, new RibbonQuarry().totalLength());
        due(166L, with("1a2b", "3c", "60d", "99e1f").totalLength());
        RibbonQuarry x = new RibbonQuarry();
        for (int reel = 0; reel < 4; reel++) {
            fill(x, reel, "99h".repeat(60));
        }
        due(4L * 60 * 99, x.totalLength());
    }

    // ---- 22 to 28: colours and tangles

    private static void tangleCount() {
        Checks.begin("promise 22");
        dueTangles(RibbonQuarry::tangleCount);
    }

    private static void tangleCountByScan() {
        Checks.begin("promise 23");
        dueTangles(RibbonQuarry::tangleCountByScan);
    }

    private interface ReelCall {
        int answer(RibbonQuarry x, int reel);
    }

    private static void dueTangles(ReelCall call) {
        RibbonQuarry x = with("1a2a3a1b1a1b4b", "1a");
        due(3, call.answer(x, 0));
        due(0, call.answer(x, 1));
        due(0, call.answer(x, 2));
        due(59, call.answer(withFull(3), 3));
        due(0, call.answer(withStairs(), 1));
        for (int position = 0; position < 59; position++) {
            RibbonQuarry stairs = withStairs();
            stairs.dye(1, position, position, stairs.colour(1, position + 1));
            due(1, call.answer(stairs, 1));
        }
        for (int reel : NO_REELS) {
            index(x, () -> call.answer(x, reel));
        }
    }

    private static void isTangled() {
        Checks.begin("promise 24");
        RibbonQuarry x = with("1a2a3b1c1b4b", "1a");
        boolean[] tangled = {true, true, false, false, true, true};
        for (int position = 0; position < 6; position++) {
            due(tangled[position], x.isTangled(0, position));
        }
        due(false, x.isTangled(1, 0));
        RibbonQuarry full = withFull(0);
        full.append(1, 1, 0);
        due(true, full.isTangled(0, 59));
        due(false, full.isTangled(1, 0));
        for (int position : new int[] {-1, 6, MIN, MAX}) {
            index(x, () -> x.isTangled(0, position));
        }
        for (int reel : NO_REELS) {
            index(x, () -> x.isTangled(reel, 0));
        }
    }

    private static void longestRun() {
        Checks.begin("promise 25");
        RibbonQuarry x = with("1a2b3b9b1c1c", "1a2b", "", "1c1c");
        due(3, x.longestRun(0));
        due(1, x.longestRun(1));
        due(0, x.longestRun(2));
        due(2, x.longestRun(3));
        due(4, with("1a1b1b1b1b").longestRun(0));
        due(60, withFull(0).longestRun(0));
        for (int reel : NO_REELS) {
            index(x, () -> x.longestRun(reel));
        }
    }

    private static void nextOfColour() {
        Checks.begin("promise 26");
        RibbonQuarry x = with("1a2b3a4h");
        due(0, x.nextOfColour(0, 0, 0));
        due(2, x.nextOfColour(0, 1, 0));
        due(2, x.nextOfColour(0, 2, 0));
        due(3, x.nextOfColour(0, 0, 7));
        element(x, () -> x.nextOfColour(0, 3, 0));
        element(x, () -> x.nextOfColour(0, 0, 2));
        for (int colour : NO_COLOURS) {
            argument(x, () -> x.nextOfColour(0, 3, colour));
            index(x, () -> x.nextOfColour(0, 4, colour));
        }
        for (int position : new int[] {-1, 4, MIN, MAX}) {
            index(x, () -> x.nextOfColour(0, position, 0));
        }
        index(x, () -> x.nextOfColour(1, 0, 0));
        for (int reel : NO_REELS) {
            index(x, () -> x.nextOfColour(reel, 0, 8));
        }
    }

    private static void colourLength() {
        Checks.begin("promise 27");
        RibbonQuarry x = with("1a2b99a4h");
        due(100, x.colourLength(0, 0));
        due(2, x.colourLength(0, 1));
        due(4, x.colourLength(0, 7));
        due(0, x.colourLength(0, 3));
        due(0, x.colourLength(1, 0));
        for (int colour : NO_COLOURS) {
            argument(x, () -> x.colourLength(0, colour));
        }
        for (int reel : NO_REELS) {
            index(x, () -> x.colourLength(reel, 8));
        }
    }

    private static void colourAtRank() {
        Checks.begin("promise 28");
        RibbonQuarry x = with("5h3b2b6a1d5c", "", "1a");
        int[] order = {0, 1, 2, 7, 3};
        for (int rank = 0; rank < 5; rank++) {
            due(order[rank], x.colourAtRank(0, rank));
        }
        due(0, x.colourAtRank(2, 0));
        for (int rank : new int[] {-1, 5, MIN, MAX}) {
            element(x, () -> x.colourAtRank(0, rank));
        }
        element(x, () -> x.colourAtRank(1, 0));
        element(x, () -> x.colourAtRank(2, 1));
        for (int reel : NO_REELS) {
            index(x, () -> x.colourAtRank(reel, -1));
        }
    }

    // ---- 29 to 33: comparisons, totals

    private static void isSymmetric() {
        Checks.begin("promise 29");
        due(true, with("").isSymmetric(0));
        due(true, with("5a").isSymmetric(0));
        due(true, with("5a5a").isSymmetric(0));
        due(false, with("5a5b").isSymmetric(0));
        due(false, with("5a6a").isSymmetric(0));
        due(true, with("1a2b3c2b1a").isSymmetric(0));
        due(false, with("1a2b3c3b1a").isSymmetric(0));
        due(false, with("1a2b3c2a1a").isSymmetric(0));
        due(true, withFull(0).isSymmetric(0));
        RibbonQuarry x = new RibbonQuarry();
        for (int reel : NO_REELS) {
            index(x, () -> x.isSymmetric(reel));
        }
    }

    private static void commonBeginning() {
        Checks.begin("promise 30");
        RibbonQuarry x = with("1a2b3c", "1a2b4c5d", "1a2b3d", "1a2b3c");
        due(2, x.commonBeginning(0, 1));
        due(2, x.commonBeginning(2, 0));
        due(3, x.commonBeginning(0, 3));
        due(3, x.commonBeginning(0, 0));
        x.remove(3, 2);
        due(2, x.commonBeginning(0, 3));
        x.remove(3, 0);
        due(0, x.commonBeginning(0, 3));
        due(0, with("1a").commonBeginning(0, 1));
        for (int reel : NO_REELS) {
            index(x, () -> x.commonBeginning(reel, 0));
            index(x, () -> x.commonBeginning(0, reel));
            index(x, () -> x.commonBeginning(reel, reel));
        }
    }

    private static void areEqual() {
        Checks.begin("promise 31");
        RibbonQuarry x = with("1a2b", "1a2b", "1a", "1a2c");
        due(true, x.areEqual(0, 1));
        due(true, x.areEqual(2, 2));
        due(false, x.areEqual(0, 2));
        due(false, x.areEqual(2, 0));
        due(false, x.areEqual(3, 0));
        x.dye(3, 1, 1, 1);
        due(true, x.areEqual(3, 0));
        x.retie(3, 0, 2);
        due(false, x.areEqual(3, 0));
        due(true, new RibbonQuarry().areEqual(0, 3));
        // What stands behind the end of a reel does not count.
        x.remove(0, 1);
        due(true, x.areEqual(0, 2));
        for (int reel : NO_REELS) {
            index(x, () -> x.areEqual(reel, 0));
            index(x, () -> x.areEqual(0, reel));
            index(x, () -> x.areEqual(reel, reel));
        }
    }

    private static void cutCount() {
        Checks.begin("promise 32");
        RibbonQuarry x = with("1a2b");
        x.cut(0, 1, 1);
        x.cut(2, 0, 3);
        state(x, () -> x.cut(0, 0, 1));
        due(2, x.cutCount());
        x.splice(0, 1);
        due(2, x.cutCount());
        x.undo();
        x.undo();
        due(1, x.cutCount());
        x.save();
        runAll(x, "cut 1@0>2;cut 2@0>1");
        due(3, x.cutCount());
        runThrows(Checks.STATE, x, "cut 1@0>2;cut 2@0>2");
        due(3, x.cutCount());
        x.restore();
        due(1, x.cutCount());
    }

    private static void spliceCount() {
        Checks.begin("promise 33");
        RibbonQuarry x = with("1a2b");
        x.splice(0, 1);
        x.splice(2, 3);
        x.splice(1, 0);
        argument(x, () -> x.splice(0, 0));
        due(3, x.spliceCount());
        x.cut(1, 0, 0);
        due(3, x.spliceCount());
        x.undo();
        x.undo();
        due(2, x.spliceCount());
        x.save();
        runAll(x, "join 1<0;join 2<1");
        due(4, x.spliceCount());
        runThrows(Checks.STATE, x, "join 1<2;join 1<1");
        due(4, x.spliceCount());
        x.restore();
        due(2, x.spliceCount());
    }

    /** Segments that left a reel count for nothing any more, however the reel was made shorter. */
    private static void whatStoodBehindTheEnd() {
        Checks.begin("promises 14 to 31, after remove");
        RibbonQuarry x = with("1a9a9b", "", "1a");
        x.remove(0, 2);
        x.remove(0, 1);
        dueShort(x, 0);
        Checks.begin("promises 14 to 31, after cut");
        x = with("1a9a9b", "", "1a");
        x.cut(0, 1, 1);
        dueShort(x, 0);
        due(18, x.reelLength(1));
        Checks.begin("promises 14 to 31, after splice");
        x = with("2h", "1a9a9b", "1a");
        x.splice(0, 1);
        x.append(1, 1, 0);
        dueShort(x, 1);
        Checks.begin("promises 14 to 31, after exchange");
        x = with("1a9a9b", "1a", "1a");
        x.exchange(0, 1);
        dueShort(x, 0);
    }

    /** For a reel of the one segment 1a, as the reel 2 has it, which stood before a longer 9a and 9b. */
    private static void dueShort(RibbonQuarry x, int reel) {
        due(1, x.reelLength(reel));
        due(1, x.lengthBefore(reel, 1));
        due(1, x.lengthBeforeByScan(reel, 1));
        due(0, x.positionAt(reel, 0));
        element(x, () -> x.positionAt(reel, 1));
        due(0, x.segmentAtRank(reel, 0));
        element(x, () -> x.segmentAtRank(reel, 1));
        due(0, x.tangleCount(reel));
        due(0, x.tangleCountByScan(reel));
        due(false, x.isTangled(reel, 0));
        due(1, x.longestRun(reel));
        element(x, () -> x.nextOfColour(reel, 0, 1));
        due(1, x.colourLength(reel, 0));
        due(0, x.colourLength(reel, 1));
        element(x, () -> x.colourAtRank(reel, 1));
        due(true, x.isSymmetric(reel));
        due(1, x.commonBeginning(reel, 2));
        due(true, x.areEqual(reel, 2));
        index(x, () -> x.length(reel, 1));
    }
}
