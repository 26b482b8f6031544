/** Promises 38 to 45: the line, statistics, undo, the snapshot. */
public final class StateTest extends Promises {

    public static void main(String[] args) {
        describeReel();
        lineAt();
        meanLength();
        colourShare();
        isConsistent();
        undoOfEachChange();
        undoOfEight();
        undoOfRuns();
        undoLeavesTheRest();
        whatIsNoChange();
        save();
        restore();
        Checks.end();
    }

    // ---- 38 to 42: line, statistics

    private static void describeReel() {
        Checks.begin("promise 38");
        RibbonQuarry x = with("12a5a99h", "10b", "9c", "1a2b3c4d5e6f7g8h90h");
        due(10, x.describeReel(0));
        due("12a=5a-99h", Look.line(x));
        due(3, x.describeReel(1));
        due("10b", Look.line(x));
        due(2, x.describeReel(2));
        due("9c", Look.line(x));
        due(27, x.describeReel(3));
        due("1a-2b-3c-4d-5e-6f-7g-8h=90h", Look.line(x));
        x.remove(2, 0);
        due(0, x.describeReel(2));
        due("", Look.line(x));
        x.describeReel(1);
        for (int reel : NO_REELS) {
            index(x, () -> x.describeReel(reel));
        }
        due("10b", Look.line(x));
        RibbonQuarry full = new RibbonQuarry();
        fill(full, 0, "99h".repeat(60));
        due(239, full.describeReel(0));
        due("99h=".repeat(60).substring(0, 239), Look.line(full));
    }

    private static void lineAt() {
        Checks.begin("promise 39");
        RibbonQuarry x = with("12a5a99h");
        for (int index : new int[] {-1, 0, MIN, MAX}) {
            index(x, () -> x.lineAt(index));
        }
        x.describeReel(0);
        due('1', x.lineAt(0));
        due('=', x.lineAt(3));
        due('h', x.lineAt(9));
        for (int index : new int[] {-1, 10, MIN, MAX}) {
            index(x, () -> x.lineAt(index));
        }
        x.dye(0, 0, 0, 1);
        due('a', x.lineAt(2));
        x.describeReel(3);
        index(x, () -> x.lineAt(0));
    }

    private static void meanLength() {
        Checks.begin("promise 40");
        RibbonQuarry x = with("1a2b2a", "7a", "99h98h");
        due(5.0 / 3.0, x.meanLength(0));
        due(7.0, x.meanLength(1));
        due(98.5, x.meanLength(2));
        Checks.dueThrow(Checks.ARITHMETIC, x, () -> x.meanLength(3));
        for (int reel : NO_REELS) {
            index(x, () -> x.meanLength(reel));
        }
    }

    private static void colourShare() {
        Checks.begin("promise 41");
        RibbonQuarry x = with("1a2b4a", "7h");
        due(5.0f / 7.0f, x.colourShare(0, 0));
        due(2.0f / 7.0f, x.colourShare(0, 1));
        due(0.0f, x.colourShare(0, 7));
        due(1.0f, x.colourShare(1, 7));
        Checks.dueThrow(Checks.ARITHMETIC, x, () -> x.colourShare(2, 0));
        for (int colour : NO_COLOURS) {
            argument(x, () -> x.colourShare(0, colour));
            argument(x, () -> x.colourShare(2, colour));
        }
        for (int reel : NO_REELS) {
            index(x, () -> x.colourShare(reel, 8));
        }
    }

    /** Each change leaves sums and tangles that agree, on a reel long enough for several parts. */
    private static void isConsistent() {
        Checks.begin("promise 42");
        due(true, new RibbonQuarry().isConsistent());
        RibbonQuarry x = withStairs();
        due(true, x.isConsistent());
        x.remove(1, 3);
        due(true, x.isConsistent());
        x.insert(1, 8, 99, 1);
        due(true, x.isConsistent());
        x.retie(1, 59, 1);
        due(true, x.isConsistent());
        x.cut(1, 20, 3);
        due(true, x.isConsistent());
        x.exchange(3, 2);
        due(true, x.isConsistent());
        x.flip(2, 1, 39);
        due(true, x.isConsistent());
        x.dye(2, 5, 20, 3);
        due(true, x.isConsistent());
        x.splice(1, 2);
        due(true, x.isConsistent());
        runAll(x, "dye 1@0-9 a;drop 1@1;cut 1@9>0");
        due(true, x.isConsistent());
        x.undo();
        due(true, x.isConsistent());
        x.save();
        x.flip(1, 0, 59);
        x.restore();
        due(true, x.isConsistent());
    }

    // ---- 43: undo

    private static void undoOfEachChange() {
        Checks.begin("promise 43");
        RibbonQuarry x = with("1a2b3c", "", "4d");
        x.save();
        x.restore();
        state(x, x::undo);
        dueUndone(x, () -> x.append(0, 5, 5));
        dueUndone(x, () -> x.insert(0, 1, 5, 5));
        dueUndone(x, () -> x.remove(0, 0));
        dueUndone(x, () -> x.retie(0, 2, 50));
        dueUndone(x, () -> x.cut(0, 1, 1));
        dueUndone(x, () -> x.cut(0, 3, 1));
        dueUndone(x, () -> x.splice(0, 2));
        dueUndone(x, () -> x.splice(0, 1));
        dueUndone(x, () -> x.exchange(0, 2));
        dueUndone(x, () -> x.flip(0, 0, 2));
        dueUndone(x, () -> x.dye(0, 0, 2, 7));
        dueUndone(x, () -> runAll(x, "drop 0@0;cut 0@1>1;join 2<0"));
        // A change by which nothing differs is one all the same.
        dueUndone(x, () -> x.retie(0, 0, 1));
        dueUndone(x, () -> x.exchange(0, 0));
        dueUndone(x, () -> x.flip(0, 1, 1));
        dueUndone(x, () -> x.dye(0, 0, 0, 0));
    }

    /** Makes one change where none can be undone, and undoes it. */
    private static void dueUndone(RibbonQuarry x, Checks.Call change) {
        String before = Look.at(x);
        change.answer();
        due(0, x.undo());
        due(before, Look.at(x));
        state(x, x::undo);
    }

    private static void undoOfEight() {
        Checks.begin("promise 43");
        RibbonQuarry x = new RibbonQuarry();
        for (int length = 1; length <= 10; length++) {
            x.append(0, length, 0);
        }
        due(7, x.undo());
        due(9, x.segmentCount(0));
        due(6, x.undo());
        x.append(1, 50, 1);
        due(6, x.undo());
        dueReels(x, "1a2a3a4a5a6a7a8a", "");
        for (int left = 5; left >= 0; left--) {
            due(left, x.undo());
            due(2 + left, x.segmentCount(0));
        }
        state(x, x::undo);
        dueReels(x, "1a2a");
        for (int turn = 0; turn < 20; turn++) {
            x.append(0, 9, turn % 8);
        }
        for (int left = 7; left >= 0; left--) {
            due(left, x.undo());
        }
        due(14, x.segmentCount(0));
        state(x, x::undo);
    }

    private static void undoOfRuns() {
        Checks.begin("promise 43");
        RibbonQuarry x = with("1a");
        due(3, runAll(x, "add 0 2b;add 0 3c;add 0 4d"));
        due(1, x.undo());
        dueReels(x, "1a");
        for (int change = 0; change < 9; change++) {
            x.retie(0, 0, 10 + change);
        }
        // A run that fails takes no place among the changes, so the oldest one can still be undone.
        runThrows(Checks.STATE, x, "drop 0@0;drop 0@0");
        runThrows(Checks.ARGUMENT, x, "drop 0@0;");
        for (int left = 7; left >= 0; left--) {
            due(left, x.undo());
        }
        dueReels(x, "10a");
        state(x, x::undo);
    }

    private static void undoLeavesTheRest() {
        Checks.begin("promise 43");
        RibbonQuarry x = with("1a2b");
        runThrows(Checks.ARGUMENT, x, "add 0 1i");
        runThrows(Checks.STATE, x, "swap 00;drop 3@0");
        x.describeReel(0);
        typeAll(x, "drop 0@");
        x.remove(0, 0);
        due(2, x.undo());
        due("1a-2b", Look.line(x));
        due(7, x.errorPosition());
        due(1, x.failedCommand());
        due(8, x.type('1'));
        due(1, x.run());
        dueReels(x, "1a");
    }

    private static void whatIsNoChange() {
        Checks.begin("promise 43");
        RibbonQuarry x = with("1a2b");
        x.save();
        x.describeReel(0);
        x.type('a');
        x.isConsistent();
        index(x, () -> x.remove(0, 2));
        argument(x, () -> x.append(0, 0, 0));
        state(x, () -> x.cut(1, 0, 0));
        due(1, x.undo());
        dueReels(x, "1a");
        due(0, x.undo());
        state(x, x::undo);
    }

    // ---- 44 and 45: snapshot

    private static void save() {
        Checks.begin("promise 44");
        due(0, new RibbonQuarry().save());
        RibbonQuarry x = with("1a2b", "", "3c", "4d5e6f");
        due(6, x.save());
        x.append(1, 9, 1);
        x.remove(0, 0);
        due(6, x.save());
        x.flip(3, 0, 2);
        x.restore();
        dueReels(x, "2b", "9b", "3c", "4d5e6f");
        // Saving is no change: undo leaves the snapshot, and the snapshot leaves what can be undone.
        x.append(1, 8, 1);
        due(7, x.save());
        due(0, x.undo());
        due(7, x.restore());
        dueReels(x, "2b", "9b8b");
    }

    private static void restore() {
        Checks.begin("promise 45");
        RibbonQuarry x = with("1a2b3c");
        state(x, x::restore);
        due(2, x.undo());
        x.cut(0, 1, 1);
        x.splice(2, 1);
        due(2, x.save());
        x.cut(2, 0, 1);
        x.splice(0, 1);
        x.describeReel(0);
        runThrows(Checks.ARGUMENT, x, "add 0 1i");
        runThrows(Checks.STATE, x, "swap 00;drop 3@0");
        typeAll(x, "drop 0@");
        due(2, x.restore());
        dueReels(x, "1a", "", "2b", "");
        due(1, x.cutCount());
        due(1, x.spliceCount());
        state(x, x::undo);
        // The command text, the line, the error position and the failed command are not restored.
        due("1a-2b", Look.line(x));
        due(7, x.errorPosition());
        due(1, x.failedCommand());
        due(8, x.type('0'));
        due(1, x.run());
        due(0, x.undo());
        x.append(0, 9, 1);
        due(2, x.restore());
        dueReels(x, "1a", "", "2b", "");
        state(x, x::undo);
        x.append(0, 9, 1);
        due(0, x.undo());
    }
}
