import java.io.IOException;

/** Promises 14 to 33: lengths, colours and tangles, comparisons, totals. */
public final class QuestionsTest extends Promises {

    public static void main(String[] args) throws IOException {
        begin(args);
        reelLength();
        lengthBefore();
        lengthBeforeByScan();
        positionAt();
        rangeLength();
        longestInRange();
        segmentAtRank();
        totalLength();
        tangleCount();
        tangleCountByScan();
        isTangled();
        longestRun();
        nextOfColour();
        colourLength();
        colourAtRank();
        isSymmetric();
        commonBeginning();
        areEqual();
        cutCount();
        spliceCount();
        whatStoodBehindTheEnd();
        endPromises(14, 33);
    }

    // ---- 14 to 21: lengths

    private static void reelLength() {
        promise(14);
        says("Returns the length of a reel: the sum of the lengths of its segments.");
        for (int count = 1; count <= 60; count++) {
            due(sum(1, count), with("7a", stairs(1, count)).reelLength(1));
        }
        due(5940, with("99h".repeat(60)).reelLength(0));

        says("reel: the reel, 0 to 3");
        eachReelAnswers(RibbonQuarry::reelLength, 1, 5, 60, 97);

        says("Returns the length, 0 without segments.");
        due(0, new RibbonQuarry().reelLength(0));
        due(0, with("1a", "2b", "3c").reelLength(3));
        RibbonQuarry x = with("1a2b");
        x.cut(0, 0, 1);
        due(0, x.reelLength(0));
        due(3, x.reelLength(1));

        says("Throws IndexOutOfBoundsException if there is no such reel");
        noReel(RibbonQuarry::reelLength);
    }

    private static void lengthBefore() {
        promise(15);
        says("Returns the sum of the lengths of all segments before a position, found from the sums of parts of the"
                + " reel.");
        dueSumsBefore(RibbonQuarry::lengthBefore);
        dueAtBorders(RibbonQuarry::lengthBefore);
    }

    private static void lengthBeforeByScan() {
        promise(16);
        says("Returns the same sum as lengthBefore(), added segment by segment.");
        dueSumsBefore(RibbonQuarry::lengthBeforeByScan);
        dueAtBorders(RibbonQuarry::lengthBeforeByScan);
    }

    private interface BorderUse {
        Object of(RibbonQuarry x, int reel, int position);
    }

    /** The sums at all positions of a full reel, and once more after each kind of change. */
    private static void dueSumsBefore(BorderUse call) {
        RibbonQuarry x = with("7a", stairs(1, 60));
        for (int position = 0; position <= 60; position++) {
            due(sum(1, position), call.of(x, 1, position));
        }
        RibbonQuarry changed = with("7a", stairs(1, 60));
        changed.remove(1, 0);
        due(sum(2, 60), call.of(changed, 1, 59));
        due(sum(2, 9), call.of(changed, 1, 8));
        changed.retie(1, 30, 99);
        due(sum(2, 60) + 99 - 32, call.of(changed, 1, 59));
        changed.insert(1, 5, 50, 0);
        due(sum(2, 6) + 50 + 7, call.of(changed, 1, 7));
        due(sum(2, 60) + 99 - 32 + 50, call.of(changed, 1, 60));
        changed.cut(1, 20, 2);
        due(sum(2, 20) + 50, call.of(changed, 1, 20));
        due(sum(21, 60) + 99 - 32, call.of(changed, 2, 40));
        changed.exchange(1, 3);
        due(sum(2, 20) + 50, call.of(changed, 3, 20));
        due(0, call.of(changed, 1, 0));
        changed.splice(3, 0);
        due(sum(2, 20) + 50 + 7, call.of(changed, 3, 21));
        changed.flip(3, 0, 20);
        due(7 + 20, call.of(changed, 3, 2));
        due(7 + sum(7, 20) + 50, call.of(changed, 3, 16));
        changed.append(3, 88, 0);
        due(sum(2, 20) + 50 + 7 + 88, call.of(changed, 3, 22));
        changed.undo();
        changed.undo();
        due(sum(2, 4), call.of(changed, 3, 3));
    }

    /** The rows that both promises have. */
    private static void dueAtBorders(BorderUse call) {
        says("reel: the reel, 0 to 3");
        eachReelAnswers((x, reel) -> call.of(x, reel, 1), 1, 2, 4, 70);

        says("position: the position, from 0 to the number of segments");
        eachReelAnswers((x, reel) -> call.of(x, reel, 0), 0, 0, 0, 0);
        eachReelAnswers((x, reel) -> call.of(x, reel, reel + 1), 1, 5, 60, 97);

        says("Returns the sum.");
        due(0, call.of(new RibbonQuarry(), 0, 0));
        due(99, call.of(with("99h1a"), 0, 1));
        due(5940, call.of(with("99h".repeat(60)), 0, 60));

        says("Throws IndexOutOfBoundsException if there is no such reel, or the position is negative or greater than"
                + " the number of segments");
        noReel((x, reel) -> call.of(x, reel, 0));
        for (int position : noBorders(5)) {
            index(() -> lived(FIVE), x -> call.of(x, 0, position));
        }
        index(() -> lived("", "1a"), x -> call.of(x, 0, 1));
        index(() -> lived(FULL), x -> call.of(x, 0, 61));
    }

    private static void positionAt() {
        promise(17);
        says("Returns the position of the segment that contains an offset: the segment for which the sum of all lengths"
                + " before it is at most the offset, and greater than the offset together with its own length.");
        for (int position = 0; position < 60; position++) {
            RibbonQuarry x = with("", "", stairs(1, 60));
            due(position, x.positionAt(2, sum(1, position)));
            due(position, x.positionAt(2, sum(1, position + 1) - 1));
        }

        says("reel: the reel, 0 to 3");
        eachReelAnswers((y, reel) -> y.positionAt(reel, new int[] {0, 2, 53, 79}[reel]), 0, 1, 1, 2);

        says("offset: the offset from the beginning of the reel, from 0");
        RibbonQuarry x = with("1a99b50c", "7d");
        due(0, x.positionAt(0, 0));
        due(1, x.positionAt(0, 1));
        due(1, x.positionAt(0, 99));
        due(2, x.positionAt(0, 100));
        due(2, x.positionAt(0, 149));
        due(0, x.positionAt(1, 6));

        says("Returns the position.");
        due(59, with(FULL).positionAt(0, 59));
        due(59, with("99h".repeat(60)).positionAt(0, 5939));
        due(58, with("99h".repeat(60)).positionAt(0, 5840));

        says("Throws IndexOutOfBoundsException if there is no such reel");
        noReel((y, reel) -> y.positionAt(reel, 0));

        says("Throws NoSuchElementException if the offset is negative or not less than the length of the reel");
        for (int offset : new int[] {-1, -99, MIN, 165, 166, 60 * 99, MAX}) {
            element(() -> lived(FIVE), y -> y.positionAt(0, offset));
        }
        element(() -> lived("", "1a"), y -> y.positionAt(0, 0));
        element(() -> lived(FULL), y -> y.positionAt(0, 60));
    }

    private static void rangeLength() {
        promise(18);
        says("Returns the sum of the lengths of a range.");
        RibbonQuarry x = with("7a", stairs(1, 60));
        for (int first = 0; first < 60; first += 3) {
            for (int last = first; last < 60; last += 4) {
                due(sum(first + 1, last + 1), x.rangeLength(1, first, last));
            }
        }

        says("reel: the reel, 0 to 3");
        eachReelAnswers((y, reel) -> y.rangeLength(reel, 0, reel), 1, 5, 60, 97);

        says("first: the position of the first segment of the range");
        for (int first = 0; first < 5; first++) {
            due(11 * sum(first + 1, 5), with(FIVE).rangeLength(0, first, 4));
        }

        says("last: the position of the last segment of the range");
        for (int last = 0; last < 5; last++) {
            due(11 * sum(1, last + 1), with(FIVE).rangeLength(0, 0, last));
        }

        says("Returns the sum.");
        due(33, with(FIVE).rangeLength(0, 2, 2));
        due(5940, with("99h".repeat(60)).rangeLength(0, 0, 59));

        says("Throws IndexOutOfBoundsException if there is no such reel or position, for either position");
        noReel((y, reel) -> y.rangeLength(reel, 0, 0));
        noRange((y, first, last) -> y.rangeLength(0, first, last));

        says("Throws IllegalArgumentException if the first position is greater than the last one");
        backwards((y, first, last) -> y.rangeLength(0, first, last));
    }

    private static void longestInRange() {
        promise(19);
        says("Returns the position of the longest segment of a range.");
        RibbonQuarry x = with("5h9a3c8d1e");
        due(1, x.longestInRange(0, 0, 4));
        due(1, x.longestInRange(0, 1, 1));
        due(3, x.longestInRange(0, 2, 4));
        due(3, x.longestInRange(0, 2, 3));
        due(59, with(stairs(1, 60)).longestInRange(0, 0, 59));

        says("If several segments are the longest, the first position is returned.");
        RibbonQuarry several = with("5h9a3c9d9e1f3c");
        due(1, several.longestInRange(0, 0, 6));
        due(1, several.longestInRange(0, 1, 3));
        due(3, several.longestInRange(0, 2, 6));
        due(4, several.longestInRange(0, 4, 6));
        due(2, with("9a9b1c1d1e").longestInRange(0, 2, 4));
        due(7, with(FULL).longestInRange(0, 7, 59));

        says("reel: the reel, 0 to 3");
        eachReelAnswers((y, reel) -> y.longestInRange(reel, 0, reel), 0, 1, 1, 0);

        says("first: the position of the first segment of the range");
        int[] fromEach = {1, 1, 3, 3, 4};
        for (int first = 0; first < 5; first++) {
            due(fromEach[first], x.longestInRange(0, first, 4));
        }

        says("last: the position of the last segment of the range");
        int[] toEach = {0, 1, 2, 3, 4};
        for (int last = 0; last < 5; last++) {
            due(toEach[last], with(FIVE).longestInRange(0, 0, last));
        }

        says("Returns the position.");
        due(0, with("99a").longestInRange(0, 0, 0));
        due(59, with(FULL).longestInRange(0, 59, 59));

        says("Throws IndexOutOfBoundsException if there is no such reel or position, for either position");
        noReel((y, reel) -> y.longestInRange(reel, 0, 0));
        noRange((y, first, last) -> y.longestInRange(0, first, last));

        says("Throws IllegalArgumentException if the first position is greater than the last one");
        backwards((y, first, last) -> y.longestInRange(0, first, last));
    }

    private static void segmentAtRank() {
        promise(20);
        says("Returns the position of the segment at a rank: the longer segment first; of segments with the same length"
                + " the one with the lower position first.");
        dueRanks(with("5a9a5h99b5c"), 3, 1, 0, 2, 4);
        dueRanks(with(FIVE), 4, 3, 2, 1, 0);
        dueRanks(with("2a2b2c2d"), 0, 1, 2, 3);
        RibbonQuarry x = with(stairs(1, 60));
        RibbonQuarry even = with(FULL);
        for (int rank = 0; rank < 60; rank++) {
            due(59 - rank, x.segmentAtRank(0, rank));
            due(rank, even.segmentAtRank(0, rank));
        }

        says("reel: the reel, 0 to 3");
        eachReelAnswers((y, reel) -> y.segmentAtRank(reel, 0), 0, 1, 1, 0);

        says("rank: the rank, from 0");
        eachReelAnswers((y, reel) -> y.segmentAtRank(reel, reel), 0, 0, 0, 1);

        says("Returns the position.");
        due(0, with("99h").segmentAtRank(0, 0));

        says("Throws IndexOutOfBoundsException if there is no such reel");
        noReel((y, reel) -> y.segmentAtRank(reel, 0));

        says("Throws NoSuchElementException if there is no such rank");
        for (int rank : new int[] {-1, 5, 6, 60, MIN, MAX}) {
            element(() -> lived(FIVE), y -> y.segmentAtRank(0, rank));
        }
        element(() -> lived("", "1a"), y -> y.segmentAtRank(0, 0));
        element(() -> lived(FULL), y -> y.segmentAtRank(0, 60));
    }

    private static void dueRanks(RibbonQuarry x, int... order) {
        for (int rank = 0; rank < order.length; rank++) {
            due(order[rank], x.segmentAtRank(0, rank));
        }
    }

    private static void totalLength() {
        promise(21);
        says("Returns the sum of the lengths of all reels.");
        due(166L, with("1a2b", "3c", "60d", "99e1f").totalLength());
        due(163L, lived(FOUR).totalLength());
        for (int reel = 0; reel < 4; reel++) {
            RibbonQuarry x = new RibbonQuarry();
            fill(x, reel, "7a8b");
            due(15L, x.totalLength());
        }

        says("Returns the sum.");
        due(0L, new RibbonQuarry().totalLength());
        String full = "99h".repeat(60);
        due(23760L, with(full, full, full, full).totalLength());
    }

    // ---- 22 to 28: colours and tangles

    private static void tangleCount() {
        promise(22);
        says("Returns the number of tangles of a reel, found from the tangles of parts of the reel.");
        dueTangles(RibbonQuarry::tangleCount);
        dueTangleRows(RibbonQuarry::tangleCount);
    }

    private static void tangleCountByScan() {
        promise(23);
        says("Returns the same number as tangleCount(), counted pair by pair.");
        dueTangles(RibbonQuarry::tangleCountByScan);
        dueTangleRows(RibbonQuarry::tangleCountByScan);
    }

    /** The rows that both promises have. */
    private static void dueTangleRows(ReelUse call) {
        says("reel: the reel, 0 to 3");
        eachReelAnswers(ALIKE, call, 0, 1, 2, 3);

        says("Returns the number of tangles.");
        due(0, call.of(new RibbonQuarry(), 0));
        due(0, call.of(with("1a"), 0));
        due(59, call.of(with(FULL), 0));

        says("Throws IndexOutOfBoundsException if there is no such reel");
        noReel(call);
    }

    /** A tangle at each place of a full reel, and after each kind of change. */
    private static void dueTangles(ReelUse call) {
        due(3, call.of(with("1a2a3a1b1a1b4b", "1a"), 0));
        due(0, call.of(with("1a2a3a1b1a1b4b", "1a"), 1));
        due(0, call.of(with(stairs(1, 60)), 0));
        for (int position = 0; position < 59; position++) {
            RibbonQuarry x = with("", stairs(1, 60));
            x.dye(1, position, position, (position + 2) % 8);
            due(1, call.of(x, 1));
        }
        for (int count = 1; count <= 60; count++) {
            due(count - 1, call.of(with("1c".repeat(count), "1c"), 0));
        }
        RibbonQuarry changed = with("1a2a3b4b5a6a");
        changed.remove(0, 2);
        due(2, call.of(changed, 0));
        changed.remove(0, 2);
        due(3, call.of(changed, 0));
        changed.insert(0, 2, 9, 7);
        due(2, call.of(changed, 0));
        changed.flip(0, 1, 2);
        due(2, call.of(changed, 0));
        changed.cut(0, 3, 1);
        due(0, call.of(changed, 0));
        due(1, call.of(changed, 1));
        changed.splice(0, 1);
        due(2, call.of(changed, 0));
        due(0, call.of(changed, 1));
        changed.exchange(0, 2);
        due(0, call.of(changed, 0));
        due(2, call.of(changed, 2));
        changed.append(2, 9, 0);
        due(3, call.of(changed, 2));
        changed.undo();
        due(2, call.of(changed, 2));
    }

    private static void isTangled() {
        promise(24);
        says("Returns whether a segment belongs to a tangle.");
        RibbonQuarry x = with("1a2a3b1c1b4b");
        boolean[] tangled = {true, true, false, false, true, true};
        for (int position = 0; position < 6; position++) {
            due(tangled[position], x.isTangled(0, position));
        }
        for (int position = 0; position < 59; position++) {
            RibbonQuarry y = with("", stairs(1, 60));
            y.dye(1, position, position, (position + 2) % 8);
            for (int each = 0; each < 60; each++) {
                due(each == position || each == position + 1, y.isTangled(1, each));
            }
        }

        says("reel: the reel, 0 to 3");
        eachReelAnswers((y, reel) -> y.isTangled(reel, 0), false, true, false, false);

        says("position: the position of the segment, from 0");
        eachReelAnswers(ALIKE, (y, reel) -> y.isTangled(reel, reel), false, true, true, true);
        RibbonQuarry full = with(FULL, "1a");
        due(true, full.isTangled(0, 0));
        due(true, full.isTangled(0, 59));
        due(false, full.isTangled(1, 0));

        says("Returns whether it belongs to one.");
        due(false, with("1a", "1a", "1a", "1a").isTangled(3, 0));
        due(true, with("1a1a").isTangled(0, 1));
        due(false, with("1a1b").isTangled(0, 1));

        says("Throws IndexOutOfBoundsException if there is no such reel or position");
        noReel((y, reel) -> y.isTangled(reel, 0));
        for (int position : noPositions(5)) {
            index(() -> lived(FIVE), y -> y.isTangled(0, position));
        }
        index(() -> lived("", "1a"), y -> y.isTangled(0, 0));
        index(() -> lived(FULL, "1a"), y -> y.isTangled(0, 60));
    }

    private static void longestRun() {
        promise(25);
        says("Returns the number of segments of the longest run of a reel.");
        due(3, with("1a2b3b9b1c1c").longestRun(0));
        due(2, with("1c1c").longestRun(0));
        due(4, with("1a1b1b1b1b").longestRun(0));
        due(4, with("1b1b1b1b1a1c1c").longestRun(0));
        due(2, with("1a1a1b1b1a1a1b1b").longestRun(0));
        for (int last = 0; last < 60; last++) {
            RibbonQuarry x = with("", stairs(1, 60));
            x.dye(1, 0, last, (last + 3) % 8);
            due(last + 1, x.longestRun(1));
        }

        says("reel: the reel, 0 to 3");
        eachReelAnswers(ALIKE, RibbonQuarry::longestRun, 1, 2, 3, 4);

        says("Returns the number of segments, 0 without segments.");
        due(0, new RibbonQuarry().longestRun(0));
        due(0, with(FULL, "1a", "1a").longestRun(3));
        due(1, with("1a").longestRun(0));
        due(1, with(stairs(1, 60)).longestRun(0));
        due(60, with(FULL).longestRun(0));

        says("Throws IndexOutOfBoundsException if there is no such reel");
        noReel(RibbonQuarry::longestRun);
    }

    private static void nextOfColour() {
        promise(26);
        says("Returns the first position, from a position on, of a segment with a colour.");
        RibbonQuarry x = with("", stairs(1, 60));
        for (int position = 0; position < 52; position++) {
            for (int colour = 0; colour < 8; colour++) {
                int steps = Math.floorMod(colour - position - 1, 8);
                due(position + steps, x.nextOfColour(1, position, colour));
            }
        }

        says("reel: the reel, 0 to 3");
        eachReelAnswers((y, reel) -> y.nextOfColour(reel, 0, new int[] {0, 1, 3, 7}[reel]), 0, 0, 1, 1);

        says("position: the first position that counts");
        RibbonQuarry few = with("1a2b3a4h");
        due(0, few.nextOfColour(0, 0, 0));
        due(2, few.nextOfColour(0, 1, 0));
        due(2, few.nextOfColour(0, 2, 0));
        due(3, few.nextOfColour(0, 3, 7));

        says("colour: the colour, 0 to 7");
        RibbonQuarry eight = with("8h7g6f5e4d3c2b1a");
        for (int colour = 0; colour < 8; colour++) {
            due(7 - colour, eight.nextOfColour(0, 0, colour));
        }

        says("Returns the position of the segment.");
        due(0, with("99h").nextOfColour(0, 0, 7));
        due(59, with(FULL).nextOfColour(0, 59, 0));
        RibbonQuarry last = with(FULL);
        last.dye(0, 59, 59, 3);
        due(59, last.nextOfColour(0, 0, 3));

        says("Throws IndexOutOfBoundsException if there is no such reel or position");
        noReel((y, reel) -> y.nextOfColour(reel, 0, 0));
        for (int position : noPositions(5)) {
            index(() -> lived(FIVE), y -> y.nextOfColour(0, position, 0));
        }
        index(() -> lived("", "1a"), y -> y.nextOfColour(0, 0, 0));
        index(() -> lived(FULL, "1a"), y -> y.nextOfColour(0, 60, 0));

        says("Throws IllegalArgumentException if the colour is out of range");
        for (int colour : NO_COLOURS) {
            argument(() -> lived(FIVE), y -> y.nextOfColour(0, 0, colour));
            argument(() -> lived(FIVE), y -> y.nextOfColour(0, 4, colour));
        }

        says("Throws NoSuchElementException if there is no such segment");
        element(() -> lived("1a2b3a4h"), y -> y.nextOfColour(0, 3, 0));
        element(() -> lived("1a2b3a4h"), y -> y.nextOfColour(0, 0, 2));
        element(() -> lived("1a2b3a4h"), y -> y.nextOfColour(0, 2, 1));
        element(() -> lived("1a2b", "3c"), y -> y.nextOfColour(0, 0, 2));
        element(() -> lived(FULL, "3c"), y -> y.nextOfColour(0, 0, 2));
    }

    private static void colourLength() {
        promise(27);
        says("Returns the sum of the lengths of all segments of a reel with a colour.");
        RibbonQuarry x = with("1a2b99a4h", "5c");
        due(100, x.colourLength(0, 0));
        due(2, x.colourLength(0, 1));
        due(4, x.colourLength(0, 7));
        due(0, x.colourLength(0, 2));

        says("reel: the reel, 0 to 3");
        eachReelAnswers((y, reel) -> y.colourLength(reel, new int[] {0, 1, 2, 7}[reel]), 1, 5, 10, 18);

        says("colour: the colour, 0 to 7");
        for (int colour = 0; colour < 8; colour++) {
            due(colour + 1, with("8h7g6f5e4d3c2b1a").colourLength(0, colour));
        }

        says("Returns the sum.");
        due(0, new RibbonQuarry().colourLength(0, 0));
        due(5940, with("99h".repeat(60)).colourLength(0, 7));
        due(0, with("99h".repeat(60)).colourLength(0, 0));

        says("Throws IndexOutOfBoundsException if there is no such reel");
        noReel((y, reel) -> y.colourLength(reel, 0));

        says("Throws IllegalArgumentException if the colour is out of range");
        for (int colour : NO_COLOURS) {
            argument(() -> lived(FIVE), y -> y.colourLength(0, colour));
            argument(() -> lived(FIVE), y -> y.colourLength(1, colour));
        }
    }

    private static void colourAtRank() {
        promise(28);
        says("Returns the colour at a rank among the colours that at least one segment of a reel has: the colour with"
                + " the greater sum as returned by colourLength() first; of colours with the same sum the lower one"
                + " first.");
        dueColours(with("5h3b2b6a1d5c"), 0, 1, 2, 7, 3);
        dueColours(with("1h1g1f1e1d1c1b1a"), 0, 1, 2, 3, 4, 5, 6, 7);
        dueColours(with("1a2b3c4d5e6f7g8h"), 7, 6, 5, 4, 3, 2, 1, 0);
        dueColours(with("9a3h3h3h4h"), 7, 0);
        dueColours(with("9h3a3a3a"), 0, 7);

        says("reel: the reel, 0 to 3");
        eachReelAnswers((y, reel) -> y.colourAtRank(reel, 0), 0, 1, 3, 6);

        says("rank: the rank, from 0");
        due(7, with("5b1h").colourAtRank(0, 1));
        due(1, with("5b1h").colourAtRank(0, 0));

        says("Returns the colour.");
        for (int colour = 0; colour < 8; colour++) {
            due(colour, with("1" + letter(colour)).colourAtRank(0, 0));
        }

        says("Throws IndexOutOfBoundsException if there is no such reel");
        noReel((y, reel) -> y.colourAtRank(reel, 0));

        says("Throws NoSuchElementException if there is no such rank");
        for (int rank : new int[] {-1, 5, 6, 8, MIN, MAX}) {
            element(() -> lived(FIVE), y -> y.colourAtRank(0, rank));
        }
        element(() -> lived("", "1a"), y -> y.colourAtRank(0, 0));
        element(() -> lived(FULL), y -> y.colourAtRank(0, 1));
        element(() -> lived("1a2b3c4d5e6f7g8h"), y -> y.colourAtRank(0, 8));
    }

    private static void dueColours(RibbonQuarry x, int... order) {
        for (int rank = 0; rank < order.length; rank++) {
            due(order[rank], x.colourAtRank(0, rank));
        }
    }

    // ---- 29 to 33: comparisons, totals

    private static void isSymmetric() {
        promise(29);
        says("Returns whether a reel is the same from both ends: whether its segments in reverse order have the same"
                + " lengths and colours.");
        due(true, with("5a5a").isSymmetric(0));
        due(false, with("5a5b").isSymmetric(0));
        due(false, with("5a6a").isSymmetric(0));
        due(true, with("1a2b3c2b1a").isSymmetric(0));
        due(true, with("1a2b2b1a").isSymmetric(0));
        due(false, with("1a2b3c3b1a").isSymmetric(0));
        due(false, with("1a2b3c2a1a").isSymmetric(0));
        due(false, with("1a2b1a2b").isSymmetric(0));
        for (int position = 0; position < 60; position++) {
            RibbonQuarry x = with(FULL);
            x.retie(0, position, 2);
            due(false, x.isSymmetric(0));
            x.retie(0, 59 - position, 2);
            due(true, x.isSymmetric(0));
            x.dye(0, position, position, 1);
            due(false, x.isSymmetric(0));
        }

        says("reel: the reel, 0 to 3");
        for (int reel = 0; reel < 4; reel++) {
            RibbonQuarry x = with("1a2a", "1a2a", "1a2a", "1a2a");
            x.retie(reel, 1, 1);
            for (int each = 0; each < 4; each++) {
                due(each == reel, x.isSymmetric(each));
            }
        }

        says("Returns whether it is, true without segments.");
        due(true, new RibbonQuarry().isSymmetric(0));
        due(true, with("1a2b", "1a2b", "1a2b").isSymmetric(3));
        due(true, with("5a").isSymmetric(0));

        says("Throws IndexOutOfBoundsException if there is no such reel");
        noReel(RibbonQuarry::isSymmetric);
    }

    private static void commonBeginning() {
        promise(30);
        says("Returns the number of segments with which two reels begin alike, in lengths and colours.");
        RibbonQuarry x = with("1a2b3c", "1a2b4c5d", "1a2b3d", "1a2b3c");
        due(2, x.commonBeginning(0, 1));
        due(2, x.commonBeginning(2, 0));
        due(3, x.commonBeginning(0, 3));
        for (int position = 0; position < 60; position++) {
            RibbonQuarry y = with(stairs(1, 60), stairs(1, 60));
            y.retie(1, position, 99);
            due(position, y.commonBeginning(0, 1));
            y.undo();
            y.dye(0, position, position, (position + 4) % 8);
            due(position, y.commonBeginning(0, 1));
        }

        says("reel: the reel, 0 to 3");
        says("other: the other reel, possibly the same");
        for (int reel = 0; reel < 4; reel++) {
            for (int other = 0; other < 4; other++) {
                due(reel == other ? reel + 1 : 0, with(FOUR).commonBeginning(reel, other));
            }
        }
        due(60, with(FULL).commonBeginning(0, 0));
        due(0, new RibbonQuarry().commonBeginning(3, 3));

        says("Returns the number of segments.");
        due(0, new RibbonQuarry().commonBeginning(0, 3));
        due(0, with("1a").commonBeginning(0, 1));
        due(2, with("1a2b", "1a2b3c").commonBeginning(0, 1));
        due(2, with("1a2b", "1a2b3c").commonBeginning(1, 0));
        due(60, with(FULL, "", FULL).commonBeginning(2, 0));
        // What stood behind the end of the shorter reel does not count.
        RibbonQuarry shorter = with("1a2b3c", "1a2b3c");
        shorter.remove(1, 2);
        due(2, shorter.commonBeginning(0, 1));
        due(2, shorter.commonBeginning(1, 0));
        shorter.cut(1, 1, 2);
        due(1, shorter.commonBeginning(0, 1));
        due(0, shorter.commonBeginning(0, 2));

        says("Throws IndexOutOfBoundsException if there is no such reel, for either");
        noReel((y, reel) -> y.commonBeginning(reel, 0));
        noReel((y, reel) -> y.commonBeginning(0, reel));
        noReel((y, reel) -> y.commonBeginning(reel, reel));
    }

    private static void areEqual() {
        promise(31);
        says("Returns whether two reels have segments with the same lengths and colours in the same order.");
        RibbonQuarry x = with("1a2b", "1a2b", "2b1a", "1a2b3c");
        due(true, x.areEqual(0, 1));
        due(false, x.areEqual(0, 2));
        due(false, x.areEqual(0, 3));
        due(false, x.areEqual(3, 0));
        for (int position = 0; position < 60; position++) {
            RibbonQuarry y = with(FULL, FULL);
            due(true, y.areEqual(0, 1));
            y.retie(1, position, 99);
            due(false, y.areEqual(0, 1));
            y.undo();
            y.dye(0, position, position, 7);
            due(false, y.areEqual(0, 1));
        }

        says("reel: the reel, 0 to 3");
        says("other: the other reel, possibly the same");
        for (int reel = 0; reel < 4; reel++) {
            for (int other = 0; other < 4; other++) {
                due(reel == other, with(FOUR).areEqual(reel, other));
                due(true, with("1a", "1a", "1a", "1a").areEqual(reel, other));
            }
        }

        says("Returns whether they have.");
        due(true, new RibbonQuarry().areEqual(0, 3));
        due(false, with("1a").areEqual(0, 1));
        due(false, with("1a").areEqual(1, 0));
        due(false, with(FULL, "1a".repeat(59)).areEqual(0, 1));

        says("Throws IndexOutOfBoundsException if there is no such reel, for either");
        noReel((y, reel) -> y.areEqual(reel, 0));
        noReel((y, reel) -> y.areEqual(0, reel));
        noReel((y, reel) -> y.areEqual(reel, reel));
    }

    private static void cutCount() {
        promise(32);
        says("Returns the number of cuts made so far, those by which nothing moved included.");
        RibbonQuarry x = with("1a2b");
        x.cut(0, 1, 1);
        due(1, x.cutCount());
        x.cut(0, 1, 2);
        due(2, x.cutCount());
        x.cut(2, 0, 3);
        due(3, x.cutCount());
        x.splice(0, 1);
        x.exchange(0, 1);
        x.flip(1, 0, 1);
        due(3, x.cutCount());
        due(5, cutsAfter(x, "cut 1@0>2;cut 2@0>1"));
        due(5, cutsAfter(x, "cut 1@0>2;cut 2@0>2"));
        x.undo();
        due(3, x.cutCount());
        due("IllegalStateException", Checks.outcome(() -> x.cut(0, 0, 1)));
        due(3, x.cutCount());

        says("Returns the number of cuts.");
        due(0, new RibbonQuarry().cutCount());
        RibbonQuarry many = new RibbonQuarry();
        for (int cuts = 0; cuts < 500; cuts++) {
            many.cut(cuts % 4, 0, (cuts + 1) % 4);
        }
        due(500, many.cutCount());
        due(0, many.spliceCount());
    }

    private static int cutsAfter(RibbonQuarry x, String text) {
        typeAll(x, text);
        Checks.outcome(x::run);
        return x.cutCount();
    }

    private static void spliceCount() {
        promise(33);
        says("Returns the number of splices made so far, those of reels without segments included.");
        RibbonQuarry x = with("1a2b");
        x.splice(1, 0);
        due(1, x.spliceCount());
        x.splice(1, 0);
        due(2, x.spliceCount());
        x.splice(2, 3);
        due(3, x.spliceCount());
        x.cut(1, 0, 0);
        x.exchange(0, 1);
        x.flip(1, 0, 1);
        due(3, x.spliceCount());
        due(5, splicesAfter(x, "join 0<1;join 1<0"));
        due(5, splicesAfter(x, "join 0<1;join 1<1"));
        x.undo();
        due(3, x.spliceCount());
        due("IllegalArgumentException", Checks.outcome(() -> x.splice(1, 1)));
        due(3, x.spliceCount());

        says("Returns the number of splices.");
        due(0, new RibbonQuarry().spliceCount());
        RibbonQuarry many = new RibbonQuarry();
        for (int splices = 0; splices < 500; splices++) {
            many.splice(splices % 4, (splices + 1) % 4);
        }
        due(500, many.spliceCount());
        due(0, many.cutCount());
    }

    private static int splicesAfter(RibbonQuarry x, String text) {
        typeAll(x, text);
        Checks.outcome(x::run);
        return x.spliceCount();
    }

    // ---- what is no segment any more

    /** Segments that left a reel count for nothing any more, however the reel was made shorter. */
    private static void whatStoodBehindTheEnd() {
        Checks.begin("promises 14 to 31, after remove");
        RibbonQuarry x = with("1a9a9b", "", "1a");
        x.remove(0, 2);
        x.remove(0, 1);
        dueShort(x, 0);
        Checks.begin("promises 14 to 31, after cut");
        x = with("1a9a9b", "", "1a");
        x.cut(0, 1, 1);
        dueShort(x, 0);
        due(18, x.reelLength(1));
        Checks.begin("promises 14 to 31, after splice");
        x = with("2h", "1a9a9b", "1a");
        x.splice(0, 1);
        x.append(1, 1, 0);
        dueShort(x, 1);
        Checks.begin("promises 14 to 31, after exchange");
        x = with("1a9a9b", "1a", "1a");
        x.exchange(0, 1);
        dueShort(x, 0);
        Checks.begin("promises 14 to 31, after undo");
        x = with("1a", "", "1a");
        x.append(0, 9, 0);
        x.append(0, 9, 1);
        x.undo();
        x.undo();
        dueShort(x, 0);
        Checks.begin("promises 14 to 31, after restore");
        x = with("1a", "", "1a");
        x.save();
        fill(x, 0, "9a9b");
        x.restore();
        dueShort(x, 0);
    }

    /** For a reel of the one segment 1a, as the reel 2 has it, which stood before a longer 9a and 9b. */
    private static void dueShort(RibbonQuarry x, int reel) {
        due(1, x.reelLength(reel));
        due(1, x.lengthBefore(reel, 1));
        due(1, x.lengthBeforeByScan(reel, 1));
        due(0, x.positionAt(reel, 0));
        refusedHere("NoSuchElementException", () -> x.positionAt(reel, 1));
        due(0, x.segmentAtRank(reel, 0));
        refusedHere("NoSuchElementException", () -> x.segmentAtRank(reel, 1));
        due(0, x.tangleCount(reel));
        due(0, x.tangleCountByScan(reel));
        due(false, x.isTangled(reel, 0));
        due(1, x.longestRun(reel));
        refusedHere("NoSuchElementException", () -> x.nextOfColour(reel, 0, 1));
        due(1, x.colourLength(reel, 0));
        due(0, x.colourLength(reel, 1));
        refusedHere("NoSuchElementException", () -> x.colourAtRank(reel, 1));
        due(true, x.isSymmetric(reel));
        due(1, x.commonBeginning(reel, 2));
        due(true, x.areEqual(reel, 2));
        refusedHere("IndexOutOfBoundsException", () -> x.length(reel, 1));
    }

    private static void refusedHere(String want, Checks.Call call) {
        due(want, Checks.outcome(call));
    }
}
