import java.io.IOException;

/** Promises 1 to 13: a new object, segments, cuts and splices. */
public final class SegmentsTest extends Promises {

    public static void main(String[] args) throws IOException {
        begin(args);
        newObject();
        append();
        insert();
        remove();
        retie();
        segmentCount();
        length();
        colour();
        cut();
        splice();
        exchange();
        flip();
        dye();
        endPromises(1, 13);
    }

    // ---- 1 to 8: a new object, segments

    private static void newObject() {
        promise(1);
        says("Creates four reels without segments.");
        RibbonQuarry x = new RibbonQuarry();
        dueCounts(x, 0, 0, 0, 0);
        due(0L, x.totalLength());
        index(RibbonQuarry::new, y -> y.segmentCount(4));
        for (int reel = 0; reel < 4; reel++) {
            int only = reel;
            index(RibbonQuarry::new, y -> y.length(only, 0));
            due(1, new RibbonQuarry().append(reel, 1, 0));
        }
        x.append(0, 1, 1);
        dueCounts(new RibbonQuarry(), 0, 0, 0, 0);
    }

    private static void append() {
        promise(2);
        says("Appends a segment to the end of a reel.");
        RibbonQuarry x = with("1a2b", "", "3c");
        x.append(0, 9, 3);
        x.append(1, 8, 7);
        x.append(0, 1, 0);
        dueReels(x, "1a2b9d1a", "8h", "3c");

        says("reel: the reel, 0 to 3");
        eachReelBecomes((y, reel) -> y.append(reel, 50, 4), "1a50e", "2b3b50e", "4c50d6c50e", "70g8h9g10h50e");

        says("length: the length, 1 to 99");
        for (int length = 1; length <= 99; length++) {
            RibbonQuarry y = new RibbonQuarry();
            y.append(2, length, 7);
            dueReels(y, "", "", length + "h");
        }

        says("colour: the colour, 0 to 7");
        for (int colour = 0; colour <= 7; colour++) {
            RibbonQuarry y = new RibbonQuarry();
            y.append(2, 99, colour);
            dueReels(y, "", "", "99" + letter(colour));
        }

        says("Returns the number of segments of the reel after the call.");
        RibbonQuarry growing = with("1a", "1a");
        for (int count = 1; count <= 60; count++) {
            due(count, growing.append(3, count, 0));
        }

        says("Throws IndexOutOfBoundsException if there is no such reel");
        noReel((y, reel) -> y.append(reel, 1, 0));

        says("Throws IllegalArgumentException if the length or the colour is out of range");
        for (int length : NO_LENGTHS) {
            argument(() -> lived(FOUR), y -> y.append(0, length, 0));
        }
        for (int colour : NO_COLOURS) {
            argument(() -> lived(FOUR), y -> y.append(0, 1, colour));
            argument(() -> lived(FOUR), y -> y.append(0, 0, colour));
        }

        says("Throws IllegalStateException if the reel has 60 segments");
        state(() -> lived(FULL), y -> y.append(0, 1, 0));
        state(() -> lived("2b", "", "", FULL), y -> y.append(3, 99, 7));
        RibbonQuarry beside = lived(FULL, "5f");
        due(2, beside.append(1, 1, 0));
        beside.remove(0, 59);
        due(60, beside.append(0, 9, 1));
    }

    private static void insert() {
        promise(3);
        says("Inserts a segment into a reel.");
        RibbonQuarry x = with("", "1a2b");
        x.insert(1, 1, 9, 3);
        x.insert(1, 0, 8, 7);
        x.insert(1, 4, 7, 6);
        x.insert(0, 0, 6, 5);
        dueReels(x, "6f", "8h1a9d2b7g");

        says("The segments from the position on move back by one position.");
        for (int position = 0; position <= 59; position++) {
            RibbonQuarry y = with("5f", stairs(1, 59));
            y.insert(1, position, 99, 0);
            dueReels(y, "5f", stairs(1, position) + "99a" + stairs(position + 1, 59));
        }

        says("reel: the reel, 0 to 3");
        eachReelBecomes((y, reel) -> y.insert(reel, 0, 50, 4), "50e1a", "50e2b3b", "50e4c50d6c", "50e70g8h9g10h");

        says("position: the position of the new segment, from 0 to the number of segments");
        eachReelBecomes((y, reel) -> y.insert(reel, reel + 1, 50, 4), "1a50e", "2b3b50e", "4c50d6c50e",
                "70g8h9g10h50e");
        for (int position = 0; position <= 5; position++) {
            RibbonQuarry y = with(FIVE);
            y.insert(0, position, 99, 7);
            due(99, y.length(0, position));
            due(7, y.colour(0, position));
        }

        says("length: the length, 1 to 99");
        for (int length = 1; length <= 99; length++) {
            RibbonQuarry y = with("5f");
            y.insert(0, 0, length, 7);
            dueReels(y, length + "h5f");
        }

        says("colour: the colour, 0 to 7");
        for (int colour = 0; colour <= 7; colour++) {
            RibbonQuarry y = with("5f");
            y.insert(0, 0, 99, colour);
            dueReels(y, "99" + letter(colour) + "5f");
        }

        says("Returns the number of segments of the reel after the call.");
        RibbonQuarry growing = with("1a", "1a");
        for (int count = 1; count <= 60; count++) {
            due(count, growing.insert(3, (count - 1) / 2, count, 0));
        }

        says("Throws IndexOutOfBoundsException if there is no such reel, or the position is negative or greater than"
                + " the number of segments");
        noReel((y, reel) -> y.insert(reel, 0, 1, 0));
        for (int position : noBorders(4)) {
            index(() -> lived(FOUR), y -> y.insert(3, position, 1, 0));
        }
        index(() -> lived("", "1a"), y -> y.insert(0, 1, 1, 0));
        index(() -> lived(FULL), y -> y.insert(0, 61, 1, 0));

        says("Throws IllegalArgumentException if the length or the colour is out of range");
        for (int length : NO_LENGTHS) {
            argument(() -> lived(FOUR), y -> y.insert(3, 4, length, 0));
        }
        for (int colour : NO_COLOURS) {
            argument(() -> lived(FOUR), y -> y.insert(3, 0, 1, colour));
            argument(() -> lived(FOUR), y -> y.insert(3, 0, 100, colour));
        }

        says("Throws IllegalStateException if the reel has 60 segments");
        for (int position : new int[] {0, 30, 59, 60}) {
            state(() -> lived("2b", FULL), y -> y.insert(1, position, 99, 7));
        }
        RibbonQuarry beside = lived(FULL, "5f");
        due(2, beside.insert(1, 0, 1, 0));
        beside.remove(0, 0);
        due(60, beside.insert(0, 59, 9, 1));
    }

    private static void remove() {
        promise(4);
        says("Removes a segment from a reel.");
        for (int position = 0; position < 60; position++) {
            RibbonQuarry y = with("5f", stairs(1, 60));
            y.remove(1, position);
            dueReels(y, "5f", stairs(1, position) + stairs(position + 2, 60));
        }

        says("reel: the reel, 0 to 3");
        eachReelBecomes((y, reel) -> y.remove(reel, 0), "", "3b", "50d6c", "8h9g10h");

        says("position: the position of the segment, from 0");
        RibbonQuarry x = with(FIVE);
        x.remove(0, 4);
        x.remove(0, 0);
        x.remove(0, 1);
        dueReels(x, "22b44d");
        x.remove(0, 0);
        x.remove(0, 0);
        dueReels(x, "");

        says("Returns the length of the segment.");
        RibbonQuarry all = with("1a99b50c2d");
        due(99, all.remove(0, 1));
        due(2, all.remove(0, 2));
        due(1, all.remove(0, 0));
        due(50, all.remove(0, 0));

        says("Throws IndexOutOfBoundsException if there is no such reel or position");
        noReel((y, reel) -> y.remove(reel, 0));
        for (int position : noPositions(5)) {
            index(() -> lived(FIVE), y -> y.remove(0, position));
        }
        index(() -> lived("", "1a"), y -> y.remove(0, 0));
        index(() -> lived(FULL), y -> y.remove(0, 60));
    }

    private static void retie() {
        promise(5);
        says("Changes the length of a segment.");
        for (int position = 0; position < 60; position++) {
            RibbonQuarry y = with("5f", stairs(1, 60));
            y.retie(1, position, 99);
            dueReels(y, "5f", stairs(1, position) + "99" + letter((position + 1) % 8) + stairs(position + 2, 60));
        }

        says("reel: the reel, 0 to 3");
        eachReelBecomes((y, reel) -> y.retie(reel, 0, 88), "88a", "88b3b", "88c50d6c", "88g8h9g10h");

        says("position: the position of the segment, from 0");
        RibbonQuarry x = with(FIVE);
        x.retie(0, 0, 1);
        x.retie(0, 4, 99);
        dueReels(x, "1a22b33c44d99e");

        says("length: the length, 1 to 99");
        for (int length = 1; length <= 99; length++) {
            RibbonQuarry y = with("5f6g");
            y.retie(0, 1, length);
            dueReels(y, "5f" + length + "g");
        }

        says("Returns the previous length.");
        RibbonQuarry tied = with("1a99b50h");
        due(1, tied.retie(0, 0, 1));
        due(99, tied.retie(0, 1, 98));
        due(98, tied.retie(0, 1, 1));
        due(50, tied.retie(0, 2, 99));

        says("Throws IndexOutOfBoundsException if there is no such reel or position");
        noReel((y, reel) -> y.retie(reel, 0, 1));
        for (int position : noPositions(5)) {
            index(() -> lived(FIVE), y -> y.retie(0, position, 1));
        }
        index(() -> lived("", "1a"), y -> y.retie(0, 0, 1));

        says("Throws IllegalArgumentException if the length is out of range");
        for (int length : NO_LENGTHS) {
            argument(() -> lived(FIVE), y -> y.retie(0, 0, length));
            argument(() -> lived(FIVE), y -> y.retie(0, 4, length));
        }
    }

    private static void segmentCount() {
        promise(6);
        says("Returns the number of segments of a reel.");
        RibbonQuarry x = with(FOUR);
        dueCounts(x, 1, 2, 3, 4);
        x.remove(3, 0);
        x.append(0, 1, 1);
        dueCounts(x, 2, 2, 3, 3);

        says("reel: the reel, 0 to 3");
        eachReelAnswers(RibbonQuarry::segmentCount, 1, 2, 3, 4);

        says("Returns the number of segments.");
        due(0, new RibbonQuarry().segmentCount(3));
        due(60, with("", "", FULL).segmentCount(2));

        says("Throws IndexOutOfBoundsException if there is no such reel");
        noReel(RibbonQuarry::segmentCount);
    }

    private static void length() {
        promise(7);
        says("Returns the length of a segment.");
        RibbonQuarry x = with(stairs(1, 60));
        for (int position = 0; position < 60; position++) {
            due(position + 1, x.length(0, position));
        }

        says("reel: the reel, 0 to 3");
        eachReelAnswers((y, reel) -> y.length(reel, 0), 1, 2, 4, 70);

        says("position: the position of the segment, from 0");
        eachReelAnswers((y, reel) -> y.length(reel, reel), 1, 3, 6, 10);

        says("Returns the length.");
        for (int length = 1; length <= 99; length++) {
            due(length, with(length + "h").length(0, 0));
        }

        says("Throws IndexOutOfBoundsException if there is no such reel or position");
        noReel((y, reel) -> y.length(reel, 0));
        for (int position : noPositions(5)) {
            index(() -> lived(FIVE, "", "1a", "1a"), y -> y.length(0, position));
        }
        index(() -> lived("1a", "", "1a", "1a"), y -> y.length(1, 0));
        index(() -> lived(FULL, "1a"), y -> y.length(0, 60));
    }

    private static void colour() {
        promise(8);
        says("Returns the colour of a segment.");
        RibbonQuarry x = with(stairs(1, 60));
        for (int position = 0; position < 60; position++) {
            due((position + 1) % 8, x.colour(0, position));
        }

        says("reel: the reel, 0 to 3");
        eachReelAnswers((y, reel) -> y.colour(reel, 0), 0, 1, 2, 6);

        says("position: the position of the segment, from 0");
        eachReelAnswers((y, reel) -> y.colour(reel, reel), 0, 1, 2, 7);

        says("Returns the colour.");
        for (int colour = 0; colour <= 7; colour++) {
            due(colour, with("99" + letter(colour)).colour(0, 0));
        }

        says("Throws IndexOutOfBoundsException if there is no such reel or position");
        noReel((y, reel) -> y.colour(reel, 0));
        for (int position : noPositions(5)) {
            index(() -> lived(FIVE, "", "1a", "1a"), y -> y.colour(0, position));
        }
        index(() -> lived("1a", "", "1a", "1a"), y -> y.colour(1, 0));
        index(() -> lived(FULL, "1a"), y -> y.colour(0, 60));
    }

    // ---- 9 to 13: cuts and splices

    private static void cut() {
        promise(9);
        says("Cuts a reel.");
        RibbonQuarry x = with("1a2b3c4d", "5e", "", "6f");
        x.cut(0, 1, 2);
        dueReels(x, "1a", "5e", "2b3c4d", "6f");

        says("The segments from a position on move to an empty reel in the same order.");
        for (int position = 0; position <= 60; position++) {
            RibbonQuarry y = with("5f", "", stairs(1, 60), "6g");
            y.cut(2, position, 1);
            dueReels(y, "5f", stairs(position + 1, 60), stairs(1, position), "6g");
        }

        says("reel: the reel, 0 to 3");
        for (int reel = 0; reel < 4; reel++) {
            RibbonQuarry y = lived();
            fill(y, reel, "1a2b");
            y.cut(reel, 1, (reel + 1) % 4);
            due("1a", Look.reel(y, reel));
            due("2b", Look.reel(y, (reel + 1) % 4));
        }

        says("position: the first position that moves, from 0 to the number of segments");
        for (int position = 0; position <= 5; position++) {
            RibbonQuarry y = lived(FIVE);
            y.cut(0, position, 1);
            due(FIVE.substring(0, position * 3), Look.reel(y, 0));
            due(FIVE.substring(position * 3), Look.reel(y, 1));
        }
        RibbonQuarry none = lived("", "1a");
        none.cut(0, 0, 2);
        dueReels(none, "", "1a");

        says("other: the reel to which they move");
        for (int other = 0; other < 4; other++) {
            int reel = (other + 3) % 4;
            RibbonQuarry y = lived();
            fill(y, reel, "1a2b3c");
            y.cut(reel, 1, other);
            for (int each = 0; each < 4; each++) {
                due(each == reel ? "1a" : each == other ? "2b3c" : "", Look.reel(y, each));
            }
        }

        says("Returns the number of segments that move, possibly 0.");
        for (int position = 0; position <= 5; position++) {
            due(5 - position, with("", FIVE).cut(1, position, 3));
        }
        due(60, with(FULL).cut(0, 0, 3));
        due(0, with(FULL).cut(0, 60, 3));
        due(0, new RibbonQuarry().cut(0, 0, 3));

        says("Throws IndexOutOfBoundsException if there is no such reel, for either, or the position is negative or"
                + " greater than the number of segments");
        for (int reel : NO_REELS) {
            index(() -> lived(FIVE), y -> y.cut(0, 0, reel));
            index(() -> lived(FIVE), y -> y.cut(reel, 0, 1));
        }
        for (int position : noBorders(5)) {
            index(() -> lived(FIVE), y -> y.cut(0, position, 1));
        }
        index(() -> lived("", "1a"), y -> y.cut(0, 1, 2));

        says("Throws IllegalArgumentException if both reels are the same");
        for (int reel = 0; reel < 4; reel++) {
            int only = reel;
            argument(() -> lived(FOUR), y -> y.cut(only, 0, only));
            argument(() -> lived(), y -> y.cut(only, 0, only));
        }
        argument(() -> lived(FIVE), y -> y.cut(0, 5, 0));

        says("Throws IllegalStateException if the other reel has segments");
        state(() -> lived(FIVE, "1a"), y -> y.cut(0, 0, 1));
        state(() -> lived(FIVE, "1a"), y -> y.cut(0, 5, 1));
        state(() -> lived("", "1a"), y -> y.cut(0, 0, 1));
        state(() -> lived("9b", "", "", FULL), y -> y.cut(0, 1, 3));
    }

    private static void splice() {
        promise(10);
        says("Splices all segments of another reel to the end of a reel.");
        RibbonQuarry x = with("1a2b", "3c4d", "5e", "6f");
        x.splice(0, 1);
        dueReels(x, "1a2b3c4d", "", "5e", "6f");
        for (int count = 0; count <= 60; count++) {
            RibbonQuarry y = with(stairs(1, count), "", "", stairs(count + 1, 60));
            y.splice(0, 3);
            dueReels(y, stairs(1, 60));
        }

        says("The other reel has no segments afterwards.");
        RibbonQuarry other = with(FULL, "", "2b3c");
        other.splice(1, 0);
        dueCounts(other, 0, 60, 2, 0);
        other.splice(3, 2);
        dueCounts(other, 0, 60, 0, 2);
        other.append(0, 7, 7);
        dueReels(other, "7h", FULL, "", "2b3c");

        says("reel: the reel, 0 to 3");
        for (int reel = 0; reel < 4; reel++) {
            RibbonQuarry y = lived(FOUR);
            y.splice(reel, (reel + 1) % 4);
            due(FOUR[reel] + FOUR[(reel + 1) % 4], Look.reel(y, reel));
            due(FOUR[(reel + 2) % 4], Look.reel(y, (reel + 2) % 4));
        }

        says("other: the other reel, 0 to 3");
        for (int each = 0; each < 4; each++) {
            RibbonQuarry y = lived(FOUR);
            y.splice((each + 2) % 4, each);
            due("", Look.reel(y, each));
            due(FOUR[(each + 2) % 4] + FOUR[each], Look.reel(y, (each + 2) % 4));
        }

        says("Returns the number of segments of the reel after the call.");
        due(3, with(FOUR).splice(0, 1));
        due(3, with(FOUR).splice(1, 0));
        due(0, new RibbonQuarry().splice(2, 1));
        due(2, with("", "1a2b").splice(1, 0));
        due(60, with(stairs(1, 30), stairs(31, 60)).splice(1, 0));
        due(60, with(FULL).splice(0, 1));

        says("Throws IndexOutOfBoundsException if there is no such reel, for either");
        noReel((y, reel) -> y.splice(reel, 1));
        noReel((y, reel) -> y.splice(1, reel));

        says("Throws IllegalArgumentException if both reels are the same");
        for (int reel = 0; reel < 4; reel++) {
            int only = reel;
            argument(() -> lived(FOUR), y -> y.splice(only, only));
            argument(() -> lived(), y -> y.splice(only, only));
        }

        says("Throws IllegalStateException if the reel would have more than 60 segments");
        state(() -> lived(FULL, "1a"), y -> y.splice(0, 1));
        state(() -> lived(FULL, "1a"), y -> y.splice(1, 0));
        state(() -> lived(FULL, "", "", FULL), y -> y.splice(3, 0));
        state(() -> lived(stairs(1, 31), stairs(1, 30)), y -> y.splice(0, 1));
        due(60, with(stairs(1, 59), "1a").splice(0, 1));
        due(60, with(stairs(1, 59), "1a").splice(1, 0));
    }

    private static void exchange() {
        promise(11);
        says("Exchanges the segments of two reels.");
        RibbonQuarry x = with("1a2b3c", "4d", "5e");
        x.exchange(0, 1);
        dueReels(x, "4d", "1a2b3c", "5e");
        x.exchange(1, 3);
        dueReels(x, "4d", "", "5e", "1a2b3c");
        x.exchange(1, 0);
        dueReels(x, "", "4d", "5e", "1a2b3c");
        RibbonQuarry full = with(stairs(1, 60), "", "", stairs(40, 99));
        full.exchange(3, 0);
        dueReels(full, stairs(40, 99), "", "", stairs(1, 60));
        RibbonQuarry half = with(stairs(1, 60));
        half.exchange(3, 0);
        dueReels(half, "", "", "", stairs(1, 60));

        says("reel: the reel, 0 to 3");
        for (int reel = 0; reel < 4; reel++) {
            RibbonQuarry y = lived(FOUR);
            y.exchange(reel, (reel + 1) % 4);
            due(FOUR[(reel + 1) % 4], Look.reel(y, reel));
            due(FOUR[reel], Look.reel(y, (reel + 1) % 4));
            due(FOUR[(reel + 2) % 4], Look.reel(y, (reel + 2) % 4));
            due(FOUR[(reel + 3) % 4], Look.reel(y, (reel + 3) % 4));
        }

        says("other: the other reel, possibly the same");
        for (int other = 0; other < 4; other++) {
            RibbonQuarry y = lived(FOUR);
            due(other + 1, y.exchange(other, other));
            dueReels(y, FOUR);
            y.exchange((other + 2) % 4, other);
            due(FOUR[other], Look.reel(y, (other + 2) % 4));
            due(FOUR[(other + 2) % 4], Look.reel(y, other));
        }
        RibbonQuarry same = with(stairs(1, 60));
        due(60, same.exchange(0, 0));
        dueReels(same, stairs(1, 60));

        says("Returns the number of segments of the first reel after the call.");
        due(2, with(FOUR).exchange(0, 1));
        due(1, with(FOUR).exchange(1, 0));
        due(0, with("1a2b").exchange(0, 3));
        due(60, with(FULL).exchange(3, 0));
        due(0, new RibbonQuarry().exchange(1, 2));

        says("Throws IndexOutOfBoundsException if there is no such reel, for either");
        noReel((y, reel) -> y.exchange(reel, 1));
        noReel((y, reel) -> y.exchange(1, reel));
        noReel((y, reel) -> y.exchange(reel, reel));
    }

    private static void flip() {
        promise(12);
        says("Reverses the order of the segments of a range.");
        RibbonQuarry x = with("1a2b3c4d5e", "6f7g");
        x.flip(0, 1, 4);
        dueReels(x, "1a5e4d3c2b", "6f7g");
        x.flip(0, 0, 2);
        dueReels(x, "4d5e1a3c2b", "6f7g");
        x.flip(0, 1, 1);
        dueReels(x, "4d5e1a3c2b", "6f7g");
        RibbonQuarry full = with(stairs(1, 60));
        full.flip(0, 0, 59);
        for (int position = 0; position < 60; position++) {
            due(60 - position, full.length(0, position));
            due((60 - position) % 8, full.colour(0, position));
        }

        says("reel: the reel, 0 to 3");
        eachReelBecomes((y, reel) -> y.flip(reel, 0, reel), "1a", "3b2b", "6c50d4c", "10h9g8h70g");

        says("first: the position of the first segment of the range");
        for (int first = 0; first < 5; first++) {
            RibbonQuarry y = with(FIVE);
            y.flip(0, first, 4);
            dueReels(y, FIVE.substring(0, first * 3) + "55e44d33c22b11a".substring(0, 15 - first * 3));
        }

        says("last: the position of the last segment of the range");
        for (int last = 0; last < 5; last++) {
            RibbonQuarry y = with(FIVE);
            y.flip(0, 0, last);
            dueReels(y, "55e44d33c22b11a".substring(12 - last * 3) + FIVE.substring(last * 3 + 3));
        }

        says("Returns the sum of the lengths of these segments.");
        due(99, with(FIVE).flip(0, 1, 3));
        due(165, with(FIVE).flip(0, 0, 4));
        due(22, with(FIVE).flip(0, 1, 1));
        due(5940, with("99h".repeat(60)).flip(0, 0, 59));

        says("Throws IndexOutOfBoundsException if there is no such reel or position, for either position");
        noReel((y, reel) -> y.flip(reel, 0, 0));
        noRange((y, first, last) -> y.flip(0, first, last));

        says("Throws IllegalArgumentException if the first position is greater than the last one");
        backwards((y, first, last) -> y.flip(0, first, last));
    }

    private static void dye() {
        promise(13);
        says("Dyes the segments of a range.");
        RibbonQuarry x = with(FIVE, "6f7g");
        x.dye(0, 1, 3, 2);
        dueReels(x, "11a22c33c44c55e", "6f7g");
        RibbonQuarry full = with("99h".repeat(60));
        full.dye(0, 0, 59, 0);
        dueReels(full, "99a".repeat(60));

        says("reel: the reel, 0 to 3");
        eachReelBecomes((y, reel) -> y.dye(reel, 0, 0, 4), "1e", "2e3b", "4e50d6c", "70e8h9g10h");

        says("first: the position of the first segment of the range");
        for (int first = 0; first < 5; first++) {
            RibbonQuarry y = with(FIVE);
            y.dye(0, first, 4, 7);
            dueReels(y, FIVE.substring(0, first * 3) + "11h22h33h44h55h".substring(first * 3));
        }

        says("last: the position of the last segment of the range");
        for (int last = 0; last < 5; last++) {
            RibbonQuarry y = with(FIVE);
            y.dye(0, 0, last, 7);
            dueReels(y, "11h22h33h44h55h".substring(0, last * 3 + 3) + FIVE.substring(last * 3 + 3));
        }

        says("colour: the colour, 0 to 7");
        for (int colour = 0; colour <= 7; colour++) {
            RibbonQuarry y = with(FIVE);
            y.dye(0, 2, 2, colour);
            dueReels(y, "11a22b33" + letter(colour) + "44d55e");
        }

        says("Returns the number of segments whose colour changes.");
        RibbonQuarry dyed = with("1a2b3c4b5e");
        due(1, dyed.dye(0, 1, 3, 1));
        due(0, dyed.dye(0, 1, 3, 1));
        due(1, dyed.dye(0, 0, 0, 7));
        due(5, dyed.dye(0, 0, 4, 2));
        due(60, with(FULL).dye(0, 0, 59, 7));
        due(0, with(FULL).dye(0, 0, 59, 0));

        says("Throws IndexOutOfBoundsException if there is no such reel or position, for either position");
        noReel((y, reel) -> y.dye(reel, 0, 0, 5));
        noRange((y, first, last) -> y.dye(0, first, last, 5));

        says("Throws IllegalArgumentException if the first position is greater than the last one, or the colour is"
                + " out of range");
        backwards((y, first, last) -> y.dye(0, first, last, 5));
        for (int colour : NO_COLOURS) {
            argument(() -> lived(FIVE), y -> y.dye(0, 0, 4, colour));
            argument(() -> lived(FIVE), y -> y.dye(0, 3, 3, colour));
            argument(() -> lived(FIVE), y -> y.dye(0, 4, 3, colour));
        }
    }
}
