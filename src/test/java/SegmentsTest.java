/** Promises 1 to 13: a new object, segments, cuts and splices. */
public final class SegmentsTest extends Promises {

    public static void main(String[] args) {
        newObject();
        append();
        insert();
        remove();
        retie();
        segmentCount();
        length();
        colour();
        cut();
        splice();
        exchange();
        flip();
        dye();
        Checks.end();
    }

    // ---- 1 to 8: a new object, segments

    private static void newObject() {
        Checks.begin("promise 1");
        RibbonQuarry x = new RibbonQuarry();
        dueReels(x, "", "", "", "");
        due(0L, x.totalLength());
        due(0, x.cutCount());
        due(0, x.spliceCount());
        state(x, x::undo);
        state(x, x::restore);
        x.append(0, 1, 1);
        due(0, new RibbonQuarry().segmentCount(0));
    }

    private static void append() {
        Checks.begin("promise 2");
        RibbonQuarry x = new RibbonQuarry();
        due(1, x.append(0, 1, 0));
        due(2, x.append(0, 99, 7));
        due(1, x.append(3, 50, 3));
        dueReels(x, "1a99h", "", "", "50d");
        for (int reel : NO_REELS) {
            index(x, () -> x.append(reel, 0, 8));
        }
        for (int length : NO_LENGTHS) {
            argument(x, () -> x.append(0, length, 0));
        }
        for (int colour : NO_COLOURS) {
            argument(x, () -> x.append(0, 1, colour));
        }
        RibbonQuarry full = new RibbonQuarry();
        for (int count = 1; count <= 60; count++) {
            due(count, full.append(2, count, 0));
        }
        state(full, () -> full.append(2, 1, 0));
        argument(full, () -> full.append(2, 0, 0));
        argument(full, () -> full.append(2, 1, 8));
        index(full, () -> full.append(4, 1, 0));
        due(1, full.append(1, 1, 0));
    }

    private static void insert() {
        Checks.begin("promise 3");
        RibbonQuarry x = new RibbonQuarry();
        due(1, x.insert(1, 0, 5, 5));
        due(2, x.insert(1, 0, 1, 0));
        due(3, x.insert(1, 2, 99, 7));
        due(4, x.insert(1, 1, 2, 2));
        dueReels(x, "", "1a2c5f99h", "", "");
        for (int reel : NO_REELS) {
            index(x, () -> x.insert(reel, 0, 0, 8));
        }
        for (int position : new int[] {-1, 5, MIN, MAX}) {
            index(x, () -> x.insert(1, position, 0, 8));
        }
        for (int length : NO_LENGTHS) {
            argument(x, () -> x.insert(1, 4, length, 0));
        }
        for (int colour : NO_COLOURS) {
            argument(x, () -> x.insert(1, 0, 1, colour));
        }
        RibbonQuarry full = withFull(0);
        state(full, () -> full.insert(0, 0, 1, 0));
        state(full, () -> full.insert(0, 60, 1, 0));
        index(full, () -> full.insert(0, 61, 1, 0));
        argument(full, () -> full.insert(0, 60, 0, 0));
    }

    private static void remove() {
        Checks.begin("promise 4");
        RibbonQuarry x = with("1a2b3c4d");
        due(2, x.remove(0, 1));
        due(4, x.remove(0, 2));
        due(1, x.remove(0, 0));
        dueReels(x, "3c");
        for (int position : new int[] {-1, 1, MIN, MAX}) {
            index(x, () -> x.remove(0, position));
        }
        for (int reel : NO_REELS) {
            index(x, () -> x.remove(reel, 0));
        }
        due(3, x.remove(0, 0));
        index(x, () -> x.remove(0, 0));
        RibbonQuarry full = withFull(3);
        full.retie(3, 59, 7);
        due(7, full.remove(3, 59));
        due(60, full.append(3, 9, 1));
    }

    private static void retie() {
        Checks.begin("promise 5");
        RibbonQuarry x = with("1a2b3h");
        due(2, x.retie(0, 1, 99));
        due(99, x.retie(0, 1, 1));
        due(3, x.retie(0, 2, 3));
        dueReels(x, "1a1b3h");
        for (int reel : NO_REELS) {
            index(x, () -> x.retie(reel, 0, 0));
        }
        for (int position : new int[] {-1, 3, MIN, MAX}) {
            index(x, () -> x.retie(0, position, 0));
        }
        for (int length : NO_LENGTHS) {
            argument(x, () -> x.retie(0, 0, length));
        }
    }

    private static void segmentCount() {
        Checks.begin("promise 6");
        RibbonQuarry x = with("", "1a1a", "", "1a1a1a");
        due(0, x.segmentCount(0));
        due(2, x.segmentCount(1));
        due(3, x.segmentCount(3));
        due(60, withFull(2).segmentCount(2));
        for (int reel : NO_REELS) {
            index(x, () -> x.segmentCount(reel));
        }
    }

    private static void length() {
        Checks.begin("promise 7");
        RibbonQuarry x = with("1h99a", "", "", "50c");
        due(1, x.length(0, 0));
        due(99, x.length(0, 1));
        due(50, x.length(3, 0));
        for (int reel : NO_REELS) {
            index(x, () -> x.length(reel, 0));
        }
        for (int position : new int[] {-1, 2, MIN, MAX}) {
            index(x, () -> x.length(0, position));
        }
        index(x, () -> x.length(1, 0));
    }

    private static void colour() {
        Checks.begin("promise 8");
        RibbonQuarry x = with("1h99a", "", "", "50c");
        due(7, x.colour(0, 0));
        due(0, x.colour(0, 1));
        due(2, x.colour(3, 0));
        for (int reel : NO_REELS) {
            index(x, () -> x.colour(reel, 0));
        }
        for (int position : new int[] {-1, 2, MIN, MAX}) {
            index(x, () -> x.colour(0, position));
        }
        index(x, () -> x.colour(1, 0));
    }

    // ---- 9 to 13: cuts and splices

    private static void cut() {
        Checks.begin("promise 9");
        RibbonQuarry x = with("1a2b3c4d");
        due(3, x.cut(0, 1, 2));
        dueReels(x, "1a", "", "2b3c4d", "");
        due(0, x.cut(2, 3, 1));
        due(3, x.cut(2, 0, 1));
        dueReels(x, "1a", "2b3c4d", "", "");
        for (int reel : NO_REELS) {
            index(x, () -> x.cut(reel, 0, 1));
            index(x, () -> x.cut(0, 0, reel));
            index(x, () -> x.cut(reel, 0, reel));
        }
        for (int position : new int[] {-1, 2, MIN, MAX}) {
            index(x, () -> x.cut(0, position, 2));
            index(x, () -> x.cut(0, position, 0));
        }
        argument(x, () -> x.cut(0, 0, 0));
        argument(x, () -> x.cut(3, 0, 3));
        state(x, () -> x.cut(0, 0, 1));
        state(x, () -> x.cut(0, 1, 1));
        due(60, withFull(0).cut(0, 0, 3));
        due(3, x.cutCount());
    }

    private static void splice() {
        Checks.begin("promise 10");
        RibbonQuarry x = with("1a2b", "3c4d");
        due(4, x.splice(0, 1));
        dueReels(x, "1a2b3c4d", "", "", "");
        due(4, x.splice(0, 1));
        due(4, x.splice(3, 0));
        due(0, x.splice(0, 1));
        dueReels(x, "", "", "", "1a2b3c4d");
        for (int reel : NO_REELS) {
            index(x, () -> x.splice(reel, 1));
            index(x, () -> x.splice(0, reel));
            index(x, () -> x.splice(reel, reel));
        }
        argument(x, () -> x.splice(0, 0));
        argument(x, () -> x.splice(3, 3));
        RibbonQuarry full = withFull(0);
        argument(full, () -> full.splice(0, 0));
        due(60, full.splice(0, 1));
        full.append(1, 1, 1);
        state(full, () -> full.splice(0, 1));
        state(full, () -> full.splice(1, 0));
        full.remove(0, 59);
        due(60, full.splice(1, 0));
        due(0, full.segmentCount(0));
        due(1, full.colour(1, 0));
        RibbonQuarry y = with("1a".repeat(59), "7h", "2b", "1a".repeat(59));
        due(60, y.splice(0, 2));
        dueReels(y, "1a".repeat(59) + "2b", "7h", "", "1a".repeat(59));
        due(60, y.splice(3, 1));
        dueReels(y, "1a".repeat(59) + "2b", "", "", "1a".repeat(59) + "7h");
        due(60, y.cut(3, 0, 1));
        y.append(2, 9, 1);
        due(60, y.cut(1, 0, 3));
        due(9, y.length(2, 0));
    }

    private static void exchange() {
        Checks.begin("promise 11");
        RibbonQuarry x = with("1a2b3c", "4d");
        due(1, x.exchange(0, 1));
        dueReels(x, "4d", "1a2b3c", "", "");
        due(3, x.exchange(1, 1));
        due(0, x.exchange(1, 2));
        due(1, x.exchange(3, 0));
        dueReels(x, "", "", "1a2b3c", "4d");
        due(0, x.cutCount() + x.spliceCount());
        RibbonQuarry full = withFull(0);
        full.append(3, 1, 1);
        due(60, full.exchange(3, 0));
        due("[" + "1a".repeat(60) + "]", Look.reel(full, 3));
        for (int reel : NO_REELS) {
            index(x, () -> x.exchange(reel, 0));
            index(x, () -> x.exchange(0, reel));
            index(x, () -> x.exchange(reel, reel));
        }
    }

    private static void flip() {
        Checks.begin("promise 12");
        RibbonQuarry x = with("1a2b3c4d5e");
        due(14, x.flip(0, 1, 4));
        dueReels(x, "1a5e4d3c2b");
        due(10, x.flip(0, 0, 2));
        dueReels(x, "4d5e1a3c2b");
        due(5, x.flip(0, 1, 1));
        due(15, x.flip(0, 0, 4));
        dueReels(x, "2b3c1a5e4d");
        dueRangeExceptions(x, (first, last) -> x.flip(0, first, last));
        for (int reel : NO_REELS) {
            index(x, () -> x.flip(reel, 1, 0));
        }
        index(x, () -> x.flip(1, 0, 0));
    }

    private static void dye() {
        Checks.begin("promise 13");
        RibbonQuarry x = with("1a2b3c4d5e");
        due(2, x.dye(0, 1, 3, 2));
        dueReels(x, "1a2c3c4c5e");
        due(0, x.dye(0, 1, 3, 2));
        due(1, x.dye(0, 0, 0, 7));
        due(1, x.dye(0, 4, 4, 0));
        dueReels(x, "1h2c3c4c5a");
        due(5, x.dye(0, 0, 4, 1));
        dueReels(x, "1b2b3b4b5b");
        dueRangeExceptions(x, (first, last) -> x.dye(0, first, last, 2));
        for (int colour : NO_COLOURS) {
            argument(x, () -> x.dye(0, 0, 1, colour));
            argument(x, () -> x.dye(0, 1, 0, colour));
            index(x, () -> x.dye(0, 0, 5, colour));
        }
        for (int reel : NO_REELS) {
            index(x, () -> x.dye(reel, 1, 0, 8));
        }
    }
}
