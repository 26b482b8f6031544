import java.io.IOException;

/** Promises 38 to 45: the line, statistics, undo, the snapshot. */
public final class StateTest extends Promises {

    public static void main(String[] args) throws IOException {
        begin(args);
        describeReel();
        lineAt();
        meanLength();
        colourShare();
        isConsistent();
        undo();
        save();
        restore();
        endPromises(38, 45);
    }

    // ---- 38 to 42: line, statistics

    private static void describeReel() {
        promise(38);
        says("Writes a reel to the line, replacing its previous content: for each segment its length and the letter of"
                + " its colour, with \"=\" between two segments that are a tangle and \"-\" between two others.");
        RibbonQuarry x = with("12a5a99h", "10b", "9c9c9c", "1a2b2b1a");
        dueLine("12a=5a-99h", x, 0);
        dueLine("10b", x, 1);
        dueLine("9c=9c=9c", x, 2);
        dueLine("1a-2b=2b-1a", x, 3);
        dueLine("99h=".repeat(60).substring(0, 239), with("99h".repeat(60)), 0);
        dueLine("9h-9a-".repeat(30).substring(0, 179), with("9h9a".repeat(30)), 0);

        says("The letters of the colours 0 to 7 are a to h.");
        RibbonQuarry letters = new RibbonQuarry();
        for (int colour = 0; colour < 8; colour++) {
            letters.append(2, colour + 1, colour);
        }
        dueLine("1a-2b-3c-4d-5e-6f-7g-8h", letters, 2);

        says("An example is \"12a=5a-99h\".");
        dueLine("12a=5a-99h", with("12a5a99h"), 0);

        says("The line is empty if the reel has no segments.");
        RibbonQuarry empty = with("1a2b");
        due(5, empty.describeReel(0));
        dueLine("", empty, 1);
        dueLine("1a-2b", empty, 0);
        empty.cut(0, 0, 3);
        dueLine("", empty, 0);
        dueLine("", new RibbonQuarry(), 0);

        says("reel: the reel, 0 to 3");
        eachReelAnswers((y, reel) -> y.describeReel(reel) + Look.line(y), "21a", "52b=3b", "94c-50d-6c",
                "1370g-8h-9g-10h");

        says("Returns the length of the line.");
        for (int length = 1; length <= 99; length++) {
            due(length < 10 ? 2 : 3, with("", length + "d").describeReel(1));
        }
        for (int count = 1; count <= 60; count++) {
            due(4 * count - 1, with("10c".repeat(count)).describeReel(0));
        }
        due(0, new RibbonQuarry().describeReel(3));

        says("Throws IndexOutOfBoundsException if there is no such reel");
        noReel(RibbonQuarry::describeReel);
    }

    private static void dueLine(String want, RibbonQuarry x, int reel) {
        due(want.length(), x.describeReel(reel));
        due(want, Look.line(x));
    }

    private static void lineAt() {
        promise(39);
        says("Returns a character of the line.");
        RibbonQuarry x = with("12a5a99h", "3b");
        x.describeReel(0);
        due('1', x.lineAt(0));
        due('=', x.lineAt(3));
        due('h', x.lineAt(9));
        // The line stays as it was written, whatever happens to the reel.
        x.dye(0, 0, 0, 1);
        x.exchange(0, 1);
        due("12a=5a-99h", Look.line(x));

        says("The line is initially empty.");
        for (int index : new int[] {-1, 0, 1, MIN, MAX}) {
            index(() -> with(FOUR), y -> y.lineAt(index));
            index(RibbonQuarry::new, y -> y.lineAt(index));
        }

        says("index: the index of the character");
        String line = "99h-98a-".repeat(30).substring(0, 239);
        RibbonQuarry full = with("99h98a".repeat(30));
        full.describeReel(0);
        for (int index = 0; index < 239; index++) {
            due(line.charAt(index), full.lineAt(index));
        }

        says("Returns the character.");
        for (int length = 1; length <= 9; length++) {
            RibbonQuarry y = with(length + "h");
            y.describeReel(0);
            due((char) ('0' + length), y.lineAt(0));
        }

        says("Throws IndexOutOfBoundsException if there is no such index");
        for (int index : new int[] {-1, 10, 11, MIN, MAX}) {
            index(() -> described(with("12a5a99h"), 0), y -> y.lineAt(index));
        }
        index(() -> described(with("99h".repeat(60)), 0), y -> y.lineAt(239));
        // What the line before had more does not stand there any more.
        index(() -> described(described(with("99h98a", "1b"), 0), 1), y -> y.lineAt(2));
        index(() -> described(described(with("99h98a", "1b"), 0), 2), y -> y.lineAt(0));
    }

    private static RibbonQuarry described(RibbonQuarry x, int reel) {
        x.describeReel(reel);
        return x;
    }

    private static void meanLength() {
        promise(40);
        says("Returns the mean length of the segments of a reel: the sum of the lengths divided by the number of"
                + " segments, both converted to double.");
        due(5.0 / 3.0, with("1a2b2a").meanLength(0));
        due(98.5, with("99h98h").meanLength(0));
        due(1.0 / 1.0, with("1a").meanLength(0));
        for (int count = 1; count <= 60; count++) {
            due((double) sum(40, 39 + count) / (double) count, with("7a", stairs(40, 39 + count)).meanLength(1));
        }

        says("reel: the reel, 0 to 3");
        eachReelAnswers(RibbonQuarry::meanLength, 1.0, 2.5, 20.0, 24.25);

        says("Returns the mean.");
        due(99.0, with("99h".repeat(60)).meanLength(0));
        due(1.0, with(FULL).meanLength(0));

        says("Throws IndexOutOfBoundsException if there is no such reel");
        noReel(RibbonQuarry::meanLength);

        says("Throws ArithmeticException if the reel has no segments");
        for (int reel = 0; reel < 4; reel++) {
            int only = reel;
            arithmetic(() -> lived(), x -> x.meanLength(only));
        }
        arithmetic(() -> lived("1a", "1a", "1a"), x -> x.meanLength(3));
    }

    private static void colourShare() {
        promise(41);
        says("Returns the share of the length of a reel that has a colour: the sum as returned by colourLength() divided"
                + " by the length of the reel, both converted to float.");
        due(5.0f / 7.0f, with("1a2b4a").colourShare(0, 0));
        due(2.0f / 7.0f, with("1a2b4a").colourShare(0, 1));
        for (int length = 1; length <= 99; length++) {
            due((float) length / (float) (length + 98), with(length + "a98b").colourShare(0, 0));
            due(98.0f / (float) (length + 98), with(length + "a98b").colourShare(0, 1));
        }

        says("reel: the reel, 0 to 3");
        eachReelAnswers((x, reel) -> x.colourShare(reel, new int[] {0, 1, 3, 7}[reel]), 1.0f, 1.0f, 50.0f / 60.0f,
                18.0f / 97.0f);

        says("colour: the colour, 0 to 7");
        for (int colour = 0; colour < 8; colour++) {
            due((float) (colour + 1) / 36.0f, with("8h7g6f5e4d3c2b1a").colourShare(0, colour));
        }

        says("Returns the share.");
        due(0.0f, with("1a2b4a").colourShare(0, 7));
        due(1.0f, with("7h").colourShare(0, 7));
        due(1.0f, with("99h".repeat(60)).colourShare(0, 7));

        says("Throws IndexOutOfBoundsException if there is no such reel");
        noReel((x, reel) -> x.colourShare(reel, 0));

        says("Throws IllegalArgumentException if the colour is out of range");
        for (int colour : NO_COLOURS) {
            argument(() -> lived(FIVE), x -> x.colourShare(0, colour));
        }

        says("Throws ArithmeticException if the reel has no segments");
        for (int reel = 0; reel < 4; reel++) {
            int only = reel;
            arithmetic(() -> lived(), x -> x.colourShare(only, 7));
        }
        arithmetic(() -> lived("1a", "1a", "1a"), x -> x.colourShare(3, 0));
    }

    /** Each change leaves sums and tangles that agree, on a reel long enough for several parts. */
    private static void isConsistent() {
        promise(42);
        says("Checks the invariants: for all reels tangleCount() equals tangleCountByScan(), and lengthBefore() equals"
                + " lengthBeforeByScan() for all positions from 0 to the number of segments.");
        Look.Use[] changes = {x -> x.append(1, 9, 0), x -> x.insert(1, 8, 99, 1), x -> x.remove(1, 3),
            x -> x.retie(1, 57, 1), x -> x.cut(1, 20, 3), x -> x.splice(0, 1), x -> x.exchange(1, 2),
            x -> x.flip(1, 1, 39), x -> x.dye(1, 5, 20, 3), x -> runAll(x, "dye 1@0-9 a;drop 1@1;cut 1@9>3"),
            x -> Checks.outcome(() -> runAll(x, "dye 1@0-9 a;drop 1@1;drop 9@9")), RibbonQuarry::undo,
            RibbonQuarry::restore};
        for (Look.Use change : changes) {
            RibbonQuarry x = with("", "", "5f");
            x.save();
            fill(x, 1, stairs(1, 58));
            change.of(x);
            due(true, x.isConsistent());
            dueInvariants(x);
            Checks.outcome(x::undo);
            due(true, x.isConsistent());
        }

        says("Returns whether all of them hold.");
        due(true, new RibbonQuarry().isConsistent());
        due(true, lived(FOUR).isConsistent());
        due(true, with(FULL, FULL, FULL, FULL).isConsistent());
    }

    private static void dueInvariants(RibbonQuarry x) {
        for (int reel = 0; reel < 4; reel++) {
            due(x.tangleCountByScan(reel), x.tangleCount(reel));
            for (int position = 0; position <= x.segmentCount(reel); position++) {
                due(x.lengthBeforeByScan(reel, position), x.lengthBefore(reel, position));
            }
        }
    }

    // ---- 43: undo

    private static void undo() {
        promise(43);
        undoTheLatest();
        undoEachKind();
        undoCounts();
        noUndo();
    }

    private static void undoTheLatest() {
        says("Undoes the latest change that has not been undone.");
        RibbonQuarry x = with("1a2b");
        x.retie(0, 0, 50);
        x.exchange(0, 3);
        x.undo();
        dueReels(x, "50a2b");
        x.undo();
        dueReels(x, "1a2b");
        // A change after undo is then the latest; the undone ones are out of the row.
        x.dye(0, 0, 1, 7);
        x.append(0, 9, 1);
        dueReels(x, "1h2h9b");
        x.undo();
        dueReels(x, "1h2h");
        x.undo();
        dueReels(x, "1a2b");
        x.undo();
        dueReels(x, "1a");
        x.undo();
        dueReels(x, "");
    }

    private static void undoEachKind() {
        Look.Use[] changes = {x -> x.append(0, 5, 5), x -> x.insert(0, 1, 5, 5), x -> x.remove(0, 0),
            x -> x.retie(0, 2, 50), x -> x.cut(0, 1, 1), x -> x.splice(0, 2), x -> x.exchange(0, 2),
            x -> x.flip(0, 0, 2), x -> x.dye(0, 0, 2, 7), x -> runAll(x, "drop 0@0;cut 0@1>1;join 2<0")};
        for (Look.Use change : changes) {
            RibbonQuarry x = with("1a2b3c", "", "4d");
            String before = Look.at(x);
            change.of(x);
            due(false, before.equals(Look.at(x)));
            due(4, x.undo());
            due(before, Look.at(x));
        }
    }

    private static void undoCounts() {
        says("Returns the number of changes that can still be undone.");
        for (int changes = 1; changes <= 12; changes++) {
            RibbonQuarry x = new RibbonQuarry();
            for (int change = 0; change < changes; change++) {
                x.append(0, 1 + change, 0);
            }
            for (int left = Math.min(changes, 8) - 1; left >= 0; left--) {
                due(left, x.undo());
            }
            due(Math.max(0, changes - 8), x.segmentCount(0));
        }
        RibbonQuarry again = with("1a2b3c");
        due(2, again.undo());
        due(1, again.undo());
        again.append(0, 4, 3);
        again.append(0, 5, 3);
        due(2, again.undo());
        due(1, again.undo());
        due(0, again.undo());
        dueReels(again, "");
        // An undone change is none of the latest 8 any more: only a ninth that stands pushes out the oldest.
        RibbonQuarry full = with(stairs(1, 9));
        due(7, full.undo());
        due(6, full.undo());
        full.append(0, 50, 2);
        for (int left = 6; left >= 0; left--) {
            due(left, full.undo());
        }
        dueReels(full, stairs(1, 1));
    }

    private static void noUndo() {
        says("Throws IllegalStateException if there is no change to undo");
        state(RibbonQuarry::new, RibbonQuarry::undo);
        state(() -> undoing(with("1a2b"), 2), RibbonQuarry::undo);
        state(() -> undoing(lived(FOUR), 8), RibbonQuarry::undo);
        state(() -> undoing(lived(FULL), 8), RibbonQuarry::undo);
        // What no call has changed is no change.
        RibbonQuarry x = new RibbonQuarry();
        x.describeReel(0);
        x.save();
        x.isConsistent();
        Checks.outcome(() -> x.append(4, 1, 1));
        runThrows(Checks.ARGUMENT, x, "add 0 1a;");
        runThrows(Checks.STATE, x, "add 0 1a;drop 0@1");
        due("IllegalStateException", Checks.outcome(x::undo));
        x.append(0, 1, 0);
        due(0, x.undo());
        due("IllegalStateException", Checks.outcome(x::undo));
    }

    private static RibbonQuarry undoing(RibbonQuarry x, int undos) {
        for (int undo = 0; undo < undos; undo++) {
            x.undo();
        }
        return x;
    }

    // ---- 44 and 45: snapshot

    private static void save() {
        promise(44);
        says("Saves everything that changes can change as the snapshot, replacing an earlier snapshot.");
        Look.Use[] changes = {x -> runAll(x, "drop 0@0;flip 2@0-59;cut 0@0>1;join 3<2"), x -> x.splice(3, 2),
            x -> x.dye(2, 0, 59, 7), x -> x.retie(2, 30, 99), x -> x.cut(2, 60, 1), x -> x.splice(1, 3)};
        for (Look.Use change : changes) {
            RibbonQuarry x = with("1a2b", "", stairs(1, 60));
            x.cut(0, 1, 1);
            x.splice(0, 1);
            x.cut(0, 0, 1);
            x.exchange(0, 1);
            String saved = Look.at(x);
            x.save();
            change.of(x);
            due(false, saved.equals(Look.at(x)));
            x.restore();
            due(saved, Look.at(x));
        }
        RibbonQuarry twice = with("1a");
        twice.save();
        twice.append(0, 2, 1);
        twice.save();
        twice.append(0, 3, 2);
        twice.restore();
        dueReels(twice, "1a2b");
        // Saving is no change and hides none; undoing leaves the snapshot as it is.
        RibbonQuarry between = with("1a2b3c");
        between.save();
        due(2, between.undo());
        due(1, between.undo());
        dueReels(between, "1a");
        between.restore();
        dueReels(between, "1a2b3c");

        says("Returns the number of segments of all reels.");
        due(0, new RibbonQuarry().save());
        due(10, lived(FOUR).save());
        due(240, with(FULL, FULL, FULL, FULL).save());
        for (int reel = 0; reel < 4; reel++) {
            RibbonQuarry y = new RibbonQuarry();
            fill(y, reel, FIVE);
            due(5, y.save());
        }
    }

    private static void restore() {
        promise(45);
        says("Restores the snapshot, which is kept.");
        RibbonQuarry x = with("1a2b3c", "", "4d");
        x.cut(0, 1, 1);
        x.splice(2, 1);
        x.save();
        x.cut(2, 0, 1);
        x.splice(0, 1);
        for (int turn = 0; turn < 3; turn++) {
            x.restore();
            dueReels(x, "1a", "", "4d2b3c");
            due(1, x.cutCount());
            due(1, x.spliceCount());
            due(true, x.isConsistent());
            x.flip(2, 0, 2);
            x.cut(2, 1, 3);
        }
        x.restore();
        x.restore();
        dueReels(x, "1a", "", "4d2b3c");
        RibbonQuarry empty = new RibbonQuarry();
        empty.save();
        fillAll(empty, FOUR);
        empty.restore();
        dueReels(empty, "");

        says("After the call no change can be undone.");
        state(() -> restored(lived(FOUR)), RibbonQuarry::undo);
        state(() -> restored(restored(lived(FOUR))), RibbonQuarry::undo);
        RibbonQuarry after = restored(lived(FOUR));
        for (int length = 1; length <= 3; length++) {
            after.append(1, length, 1);
        }
        for (int left = 2; left >= 0; left--) {
            due(left, after.undo());
        }
        due("IllegalStateException", Checks.outcome(after::undo));
        dueReels(after, "9g");

        says("Returns the number of segments of all reels.");
        due(1, lived(FOUR).restore());
        due(4, x.restore());
        due(0, empty.restore());
        RibbonQuarry full = with(FULL, FULL, FULL, FULL);
        full.save();
        full.remove(3, 59);
        due(240, full.restore());

        says("Throws IllegalStateException if there is no snapshot");
        state(RibbonQuarry::new, RibbonQuarry::restore);
        state(() -> with(FOUR), RibbonQuarry::restore);
        state(() -> undoing(with(FOUR), 3), RibbonQuarry::restore);
    }

    private static RibbonQuarry restored(RibbonQuarry x) {
        x.restore();
        return x;
    }
}
