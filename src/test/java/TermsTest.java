import java.io.IOException;
import java.util.Arrays;

/** The terms "Reels", "Ranges", "Tangles", "Changes" and "Exceptions"; "Commands" has a test for itself. */
public final class TermsTest extends Promises {

    /** Every call that takes a reel, with parameters that are fine for each reel of ALIKE. */
    private static final ReelUse[] OF_A_REEL = {(x, r) -> x.append(r, 1, 0), (x, r) -> x.insert(r, 0, 1, 0),
        (x, r) -> x.remove(r, 0), (x, r) -> x.retie(r, 0, 1), (x, r) -> x.segmentCount(r), (x, r) -> x.length(r, 0),
        (x, r) -> x.colour(r, 0), (x, r) -> x.exchange(r, 1), (x, r) -> x.exchange(1, r), (x, r) -> x.flip(r, 0, 0),
        (x, r) -> x.dye(r, 0, 0, 0), (x, r) -> x.reelLength(r), (x, r) -> x.lengthBefore(r, 0),
        (x, r) -> x.lengthBeforeByScan(r, 0), (x, r) -> x.positionAt(r, 0), (x, r) -> x.rangeLength(r, 0, 0),
        (x, r) -> x.longestInRange(r, 0, 0), (x, r) -> x.segmentAtRank(r, 0), (x, r) -> x.tangleCount(r),
        (x, r) -> x.tangleCountByScan(r), (x, r) -> x.isTangled(r, 0), (x, r) -> x.longestRun(r),
        (x, r) -> x.nextOfColour(r, 0, 0), (x, r) -> x.colourLength(r, 0), (x, r) -> x.colourAtRank(r, 0),
        (x, r) -> x.isSymmetric(r), (x, r) -> x.commonBeginning(r, 1), (x, r) -> x.commonBeginning(1, r),
        (x, r) -> x.areEqual(r, 1), (x, r) -> x.areEqual(1, r), (x, r) -> x.describeReel(r),
        (x, r) -> x.meanLength(r), (x, r) -> x.colourShare(r, 0)};

    private static final String[] WITH_ROOM = {"1a", "2b3b", "", "70g8h9g10h"};

    /** Successful calls of all that makes changes, run last, on WITH_ROOM; each makes a difference. */
    private static final Look.Use[] CHANGES = {x -> x.append(0, 5, 5), x -> x.insert(1, 1, 5, 5), x -> x.remove(3, 0),
        x -> x.retie(1, 1, 99), x -> x.cut(3, 1, 2), x -> x.splice(0, 1), x -> x.exchange(0, 3),
        x -> x.flip(3, 0, 1), x -> x.dye(3, 0, 2, 0), x -> runAll(x, "drop 3@0;join 0<1;cut 3@1>1;swap 02")};

    /** The calls that answer and change nothing, neither what can be undone nor anything else. */
    private static final Look.Use[] QUESTIONS = {x -> x.segmentCount(3), x -> x.length(3, 3), x -> x.colour(3, 3),
        x -> x.reelLength(3), x -> x.lengthBefore(3, 4), x -> x.lengthBeforeByScan(3, 4), x -> x.positionAt(3, 80),
        x -> x.rangeLength(3, 1, 2), x -> x.longestInRange(3, 1, 2), x -> x.segmentAtRank(3, 2), x -> x.totalLength(),
        x -> x.tangleCount(1), x -> x.tangleCountByScan(1), x -> x.isTangled(1, 1), x -> x.longestRun(1),
        x -> x.nextOfColour(3, 1, 6), x -> x.colourLength(3, 6), x -> x.colourAtRank(3, 1), x -> x.isSymmetric(2),
        x -> x.commonBeginning(2, 3), x -> x.areEqual(2, 2), x -> x.cutCount(), x -> x.spliceCount(),
        x -> x.errorPosition(), x -> x.failedCommand(), x -> x.lineAt(1), x -> x.meanLength(3),
        x -> x.colourShare(3, 6), x -> x.isConsistent()};

    public static void main(String[] args) throws IOException {
        begin(args);
        reels();
        ranges();
        tangles();
        changes();
        exceptions();
        endTerms("Reels", "Ranges", "Tangles", "Changes", "Exceptions");
    }

    // ---- reels, ranges, tangles

    private static void reels() {
        term("Reels");
        says("There are the reels 0 to 3.");
        for (ReelUse call : OF_A_REEL) {
            for (int reel = 0; reel < 4; reel++) {
                int only = reel;
                due(false, Checks.outcome(() -> call.of(with(ALIKE), only)).endsWith("Exception"));
            }
            for (int reel : NO_REELS) {
                due("IndexOutOfBoundsException", Checks.outcome(() -> call.of(with(ALIKE), reel)));
            }
        }

        says("A reel has at most 60 segments, in order.");
        for (int reel = 0; reel < 4; reel++) {
            RibbonQuarry x = new RibbonQuarry();
            fill(x, reel, stairs(1, 60));
            due(stairs(1, 60), Look.reel(x, reel));
            int only = reel;
            int other = (reel + 1) % 4;
            x.append(other, 1, 0);
            String[] commands = {"add " + reel + " 1a", "put " + reel + "@0 1a", "join " + reel + "<" + other};
            for (String command : commands) {
                runThrows(Checks.STATE, x, command);
            }
            due("IllegalStateException", Checks.outcome(() -> x.append(only, 1, 0)));
            due("IllegalStateException", Checks.outcome(() -> x.insert(only, 60, 1, 0)));
            due("IllegalStateException", Checks.outcome(() -> x.splice(only, other)));
            due(60, x.segmentCount(reel));
        }

        says("The position of a segment is the number of segments before it.");
        RibbonQuarry x = with(FULL);
        for (int position = 0; position < 60; position++) {
            due(position, x.lengthBefore(0, position));
            due(position, x.positionAt(0, position));
            due(position, x.segmentAtRank(0, position));
        }
        RibbonQuarry moved = with("1a2b3c");
        moved.insert(0, 0, 9, 7);
        due(1, moved.length(0, 1));
        moved.remove(0, 1);
        due(2, moved.length(0, 1));

        says("A segment has a length from 1 to 99 and a colour from 0 to 7.");
        for (int length = 1; length <= 99; length++) {
            RibbonQuarry y = new RibbonQuarry();
            for (int colour = 0; colour < 8; colour++) {
                y.append(3, length, colour);
                due(length, y.length(3, colour));
                due(colour, y.colour(3, colour));
                y.retie(3, colour, 100 - length);
                y.dye(3, colour, colour, 7 - colour);
                due(100 - length, y.length(3, colour));
                due(7 - colour, y.colour(3, colour));
            }
        }
        String[] commands = {"add 0 0a", "put 0@0 0a", "tie 0@0=0"};
        for (String command : commands) {
            runThrows(Checks.STATE, with("1a"), command);
        }
    }

    private static void ranges() {
        term("Ranges");
        says("A range of a reel consists of all segments from a first position to a last position, both included.");
        for (int first = 0; first < 5; first++) {
            for (int last = first; last < 5; last++) {
                int length = 11 * sum(first + 1, last + 1);
                due(length, with(FIVE).rangeLength(0, first, last));
                due(last, with(FIVE).longestInRange(0, first, last));
                RibbonQuarry dyed = with(FIVE);
                due(last - first + 1, dyed.dye(0, first, last, 7));
                RibbonQuarry flipped = with(FIVE);
                due(length, flipped.flip(0, first, last));
                for (int position = 0; position < 5; position++) {
                    boolean inside = first <= position && position <= last;
                    due(inside ? 7 : position, dyed.colour(0, position));
                    due(inside ? first + last - position : position, flipped.colour(0, position));
                }
            }
        }
    }

    private static void tangles() {
        term("Tangles");
        says("A tangle is a pair of consecutive segments of a reel that have the same colour.");
        due(1, with("1a99a").tangleCount(0));
        due(2, with("1a2a3a").tangleCount(0));
        due(0, with("1a1b1a").tangleCount(0));
        due(0, with("1a", "1a", "1a", "1a").tangleCount(1));
        due(1, with("1h1h").tangleCountByScan(0));
        due(false, with("1a1b1a").isTangled(0, 2));
        due(true, with("1b1a99a").isTangled(0, 2));
        due(false, with("1a".repeat(60), "1a").isTangled(1, 0));

        says("A run is a maximal sequence of consecutive segments of a reel that have the same colour; a single segment"
                + " can be a run.");
        due(1, with("1a").longestRun(0));
        due(1, with("1a1b1a").longestRun(0));
        due(2, with("1a1b9b1a").longestRun(0));
        due(3, with("1c2c1a1c2c3c1b1c").longestRun(0));
        due(60, with(FULL, "1a").longestRun(0));
        due(1, with(FULL, "1a").longestRun(1));
    }

    // ---- changes

    private static void changes() {
        term("Changes");
        whatIsAChange();
        changesLeaveTheRest();
        changeWithoutDifference();
        runIsOneChange();
        latestEight();
        whatIsNeitherUndoneNorSaved();
        whatIsUndoneAndSaved();
    }

    private static void whatIsAChange() {
        says("A change is a successful call of append, insert, remove, retie, cut, splice, exchange, flip, dye or run.");
        for (Look.Use change : CHANGES) {
            RibbonQuarry x = restored();
            change.of(x);
            due(0, x.undo());
            due("IllegalStateException", Checks.outcome(x::undo));
            dueReels(x, WITH_ROOM);
        }
        for (Look.Use question : QUESTIONS) {
            due(Look.after(() -> lived(FOUR), x -> null), Look.after(() -> lived(FOUR), question));
        }
        Look.Use[] others = {x -> x.save(), x -> x.describeReel(3), x -> x.type('a'),
            x -> Checks.outcome(() -> x.append(0, 0, 0)), x -> Checks.outcome(x::run)};
        for (Look.Use other : others) {
            RibbonQuarry x = restored();
            other.of(x);
            due("IllegalStateException", Checks.outcome(x::undo));
            x.append(0, 9, 0);
            other.of(x);
            due(0, x.undo());
            dueReels(x, WITH_ROOM);
        }
    }

    /** The line, the error position, the failed command and, but for run, the command text. */
    private static void changesLeaveTheRest() {
        for (Look.Use change : CHANGES) {
            RibbonQuarry x = past(WITH_ROOM);
            change.of(x);
            due("9g", Look.line(x));
            due(5, x.errorPosition());
            due(1, x.failedCommand());
        }
        for (Look.Use change : Arrays.copyOf(CHANGES, CHANGES.length - 1)) {
            RibbonQuarry x = lived(WITH_ROOM);
            change.of(x);
            due(8, x.type('0'));
        }
    }

    /** WITH_ROOM, with nothing to undo. */
    private static RibbonQuarry restored() {
        RibbonQuarry x = with(WITH_ROOM);
        x.save();
        x.restore();
        return x;
    }

    private static void changeWithoutDifference() {
        says("A successful call is a change even if nothing differs afterwards.");
        Look.Use[] changes = {x -> x.retie(3, 0, 70), x -> x.exchange(2, 2), x -> x.flip(1, 1, 1), x -> x.flip(0, 0, 0),
            x -> x.dye(1, 0, 1, 1), x -> runAll(x, "swap 33"), x -> runAll(x, "swap 01;swap 10"),
            x -> runAll(x, "tie 3@0=70;dye 1@0-1 b;flip 3@1-1")};
        for (Look.Use change : changes) {
            RibbonQuarry x = restored();
            String before = Look.at(x);
            change.of(x);
            due(before, Look.at(x));
            due(0, x.undo());
            due(before, Look.at(x));
            // It takes the place of one of the latest 8 too.
            x.append(0, 9, 0);
            for (int turn = 0; turn < 8; turn++) {
                change.of(x);
            }
            for (int left = 7; left >= 0; left--) {
                due(left, x.undo());
            }
            due("IllegalStateException", Checks.outcome(x::undo));
            due(2, x.segmentCount(0));
        }
        RibbonQuarry empty = new RibbonQuarry();
        empty.cut(0, 0, 1);
        empty.splice(0, 1);
        empty.exchange(2, 3);
        due(2, empty.undo());
        due(1, empty.undo());
        due(0, empty.undo());
    }

    private static void runIsOneChange() {
        says("A call of run that carries out several commands is one change.");
        for (int count = 1; count <= 7; count++) {
            RibbonQuarry x = with("1a2b");
            due(count, runAll(x, ";swap 01".repeat(count).substring(1)));
            due(2, x.undo());
            dueReels(x, "1a2b");
            due(1, x.undo());
        }
        RibbonQuarry x = with("1a");
        due(6, runAll(x, "add 0 2b;cut 0@1>1;join 2<1;swap 23;dye 3@0-0 h;add 0 3c"));
        x.append(0, 4, 3);
        due(2, x.undo());
        dueReels(x, "1a3c", "", "", "2h");
        due(1, x.undo());
        dueReels(x, "1a");
        due(0, x.cutCount() + x.spliceCount());
    }

    private static void latestEight() {
        says("The latest 8 changes can be undone, the latest one first.");
        for (int changes = 1; changes <= 30; changes++) {
            RibbonQuarry x = with("99h");
            for (int length = 1; length <= changes; length++) {
                if (length % 3 == 0) {
                    runAll(x, "tie 0@0=" + length);
                } else {
                    x.retie(0, 0, length);
                }
            }
            int most = Math.min(8, changes);
            for (int undone = 1; undone <= most; undone++) {
                x.undo();
                due(changes == undone ? 99 : changes - undone, x.length(0, 0));
            }
            due(changes < 8 ? "0" : "IllegalStateException", Checks.outcome(x::undo));
            due(changes < 8 ? 0 : 1, x.segmentCount(0));
        }
        // As far as the calls of one object go.
        RibbonQuarry much = with("99h");
        for (int change = 1; change <= 490; change++) {
            much.retie(0, 0, 1 + change % 99);
        }
        for (int change = 489; change >= 482; change--) {
            due(change - 482, much.undo());
            due(1 + change % 99, much.length(0, 0));
        }
        due("IllegalStateException", Checks.outcome(much::undo));
    }

    private static void whatIsNeitherUndoneNorSaved() {
        says("The command text, the error position, the failed command, and the line are neither undone nor saved.");
        Look.Use[] backs = {RibbonQuarry::undo, RibbonQuarry::restore};
        for (Look.Use back : backs) {
            RibbonQuarry x = with("1a2b");
            x.save();
            x.append(0, 3, 2);
            runThrows(Checks.ARGUMENT, x, "add 0 1i");
            runThrows(Checks.STATE, x, "swap 00;drop 3@0");
            x.describeReel(0);
            typeAll(x, "drop 0@");
            back.of(x);
            dueReels(x, "1a2b");
            due("1a-2b-3c", Look.line(x));
            due(7, x.errorPosition());
            due(1, x.failedCommand());
            due(8, x.type('1'));
            due(1, x.run());
            dueReels(x, "1a");
        }
        // Nor is the text of a run that is undone there again.
        RibbonQuarry x = with("1a");
        runAll(x, "add 0 2b");
        x.undo();
        due(1, x.type('a'));
        // Saving leaves them too.
        Look.Maker maker = () -> lived(FOUR);
        RibbonQuarry saved = lived(FOUR);
        saved.save();
        due(Look.at(maker.make()), Look.at(saved));
        due(8, saved.type('0'));
    }

    private static void whatIsUndoneAndSaved() {
        says("Everything else is, also the numbers of cuts and splices.");
        for (Look.Use change : CHANGES) {
            RibbonQuarry x = with(WITH_ROOM);
            x.describeReel(3);
            String before = Look.at(x);
            change.of(x);
            due(false, before.equals(Look.at(x)));
            x.undo();
            due(before, Look.at(x));
            x.save();
            change.of(x);
            x.restore();
            due(before, Look.at(x));
        }
        RibbonQuarry x = with("1a2b");
        x.cut(0, 1, 1);
        x.cut(0, 1, 2);
        x.splice(0, 1);
        x.save();
        x.splice(2, 3);
        due(2, x.spliceCount());
        x.undo();
        due(1, x.spliceCount());
        x.undo();
        due(0, x.spliceCount());
        due(2, x.cutCount());
        x.undo();
        due(1, x.cutCount());
        x.undo();
        due(0, x.cutCount());
        x.restore();
        due(2, x.cutCount());
        due(1, x.spliceCount());
    }

    // ---- exceptions

    private static void exceptions() {
        term("Exceptions");
        exceptionsChangeNothing();
        firstExceptionCounts();
    }

    /** The calls of each promise's exceptions are looked at with that promise; here it is run. */
    private static void exceptionsChangeNothing() {
        says("A method that throws an exception changes nothing, except that run clears the command text and sets the"
                + " error position or the failed command.");
        // The error position is 5 and the failed command 1 already, and there is no text: nothing may differ.
        String[] noTexts = {"add 9x", "add 0", "swap ", "cut 0 >1"};
        for (String text : noTexts) {
            refuses(Checks.ARGUMENT, () -> past(FOUR), x -> runAll(x, text));
        }
        String[] failing = {"swap 01;drop 9@0", "drop 0@0;drop 0@0", "join 0<1;cut 0@0>0",
            "dye 3@0-3 a;add 0 0a", "tie 3@0=1;put 3@5 1a", "flip 3@0-3;flip 3@3-0"};
        for (String text : failing) {
            refuses(Checks.STATE, () -> past(FOUR), x -> runAll(x, text));
        }
        Look.Maker withText = () -> {
            RibbonQuarry x = past(FOUR);
            typeAll(x, "drop 9@0");
            return x;
        };
        RibbonQuarry cleared = withText.make();
        due("IllegalStateException", Checks.outcome(cleared::run));
        due(0, cleared.failedCommand());
        due(5, cleared.errorPosition());
        due(1, cleared.type('a'));
    }

    private static void firstExceptionCounts() {
        says("If several exceptions apply, the exception listed first is thrown.");
        for (int bad : new int[] {-1, 100, MIN, MAX}) {
            indexComesFirst(bad);
            argumentComesFirst(bad);
        }
        String full = "swap 00;".repeat(6) + "put 0@1 99h;";
        Look.Maker sixty = () -> {
            RibbonQuarry x = past(FOUR);
            typeAll(x, full);
            return x;
        };
        for (char sign : new char[] {0, 31, 127, 0xffff}) {
            argument(sixty, x -> x.type(sign));
        }
        // A text that is no command text is none even if its first command would fail.
        RibbonQuarry x = past(FOUR);
        runThrows(Checks.ARGUMENT, x, "drop 9@0;drop 9@0;");
        due(18, x.errorPosition());
        due(1, x.failedCommand());
    }

    private static void indexComesFirst(int bad) {
        Look.Use[] calls = {x -> x.append(bad, bad, 0), x -> x.append(bad, 1, bad), x -> x.insert(bad, 0, bad, 0),
            x -> x.insert(0, bad, 1, bad), x -> x.insert(3, bad, 1, 0), x -> x.insert(3, bad, bad, bad),
            x -> x.retie(bad, 0, bad), x -> x.retie(0, bad, bad), x -> x.cut(bad, 0, bad), x -> x.cut(0, bad, 0),
            x -> x.cut(0, bad, 3), x -> x.cut(bad, 0, 3), x -> x.cut(3, bad, 3), x -> x.splice(bad, bad),
            x -> x.flip(0, 5, 0), x -> x.flip(bad, 1, 0), x -> x.flip(0, 4, -1), x -> x.dye(0, 5, 0, 0),
            x -> x.dye(0, 0, bad, bad), x -> x.dye(bad, 0, 0, bad), x -> x.dye(0, 4, -1, bad),
            x -> x.rangeLength(0, 5, 0), x -> x.rangeLength(bad, 1, 0), x -> x.rangeLength(0, 4, -1),
            x -> x.longestInRange(0, 5, 0), x -> x.longestInRange(bad, 1, 0), x -> x.longestInRange(0, 4, -1),
            x -> x.positionAt(bad, -1), x -> x.segmentAtRank(bad, -1), x -> x.colourAtRank(bad, -1),
            x -> x.nextOfColour(bad, 0, bad), x -> x.nextOfColour(0, bad, bad), x -> x.nextOfColour(0, bad, 7),
            x -> x.nextOfColour(1, 0, bad), x -> x.colourLength(bad, bad), x -> x.colourShare(bad, bad),
            x -> x.colourShare(bad, 0)};
        for (Look.Use call : calls) {
            index(() -> lived(FIVE, "", "", FULL), call);
        }
    }

    private static void argumentComesFirst(int bad) {
        Look.Use[] calls = {x -> x.append(3, bad, 0), x -> x.append(3, 1, bad), x -> x.insert(3, 60, bad, 0),
            x -> x.insert(3, 0, 1, bad), x -> x.cut(0, 0, 0), x -> x.cut(3, 60, 3), x -> x.splice(3, 3),
            x -> x.nextOfColour(0, 0, bad), x -> x.nextOfColour(3, 59, bad), x -> x.colourShare(1, bad)};
        for (Look.Use call : calls) {
            argument(() -> lived(FIVE, "", "", FULL), call);
        }
        argument(() -> lived(stairs(1, 31)), x -> x.splice(0, 0));
    }
}
