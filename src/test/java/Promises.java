import java.io.IOException;

/** What the tests of the document's sentences are made of. */
abstract class Promises {

    static final int MIN = Integer.MIN_VALUE;
    static final int MAX = Integer.MAX_VALUE;
    // The large ones come out small when they are multiplied by 60 or by 8 and the result wraps around.
    static final int[] NO_REELS = {-1, 4, 5, MIN, MAX, 1 << 30, 71582789};
    static final int[] NO_LENGTHS = {0, -1, 100, 101, MIN, MAX, (1 << 29) + 1};
    static final int[] NO_COLOURS = {-1, 8, 9, MIN, MAX, 1 << 29};

    /** A segment on reel 0, two on reel 1, three on reel 2 and four on reel 3. */
    static final String[] FOUR = {"1a", "2b3b", "4c50d6c", "70g8h9g10h"};
    /** As many segments on the reels as FOUR has, all alike. */
    static final String[] ALIKE = {"1a", "1a1a", "1a1a1a", "1a1a1a1a"};
    static final String FIVE = "11a22b33c44d55e";
    static final String FULL = "1a".repeat(60);

    private static Document document;
    private static String heading = "";

    interface ReelUse {
        Object of(RibbonQuarry x, int reel);
    }

    interface RangeUse {
        Object of(RibbonQuarry x, int first, int last);
    }

    // ---- sentences of the document

    static void begin(String[] args) throws IOException {
        document = new Document(args[1]);
    }

    static void promise(int number) {
        heading = Document.promise(number);
    }

    static void term(String label) {
        heading = Document.term(label);
    }

    /** Begins the test of a sentence of the document, which must stand there just so. */
    static void says(String sentence) {
        Checks.begin(heading + ", \"" + sentence + "\"");
        due(true, document.begin(heading, sentence));
    }

    /** Every sentence of these promises must have a test. */
    static void endPromises(int first, int last) {
        for (int number = first; number <= last; number++) {
            endHeading(Document.promise(number));
        }
        Checks.end();
    }

    /** Every sentence of these terms must have a test. */
    static void endTerms(String... labels) {
        for (String label : labels) {
            endHeading(Document.term(label));
        }
        Checks.end();
    }

    private static void endHeading(String each) {
        Checks.begin(each + ", sentences without a test");
        due("[]", document.unsaid(each).toString());
    }

    // ---- objects

    /** Makes an object whose reels 0, 1 .. hold the segments of the texts, such as "12a5a99h". */
    static RibbonQuarry with(String... reels) {
        RibbonQuarry x = new RibbonQuarry();
        fillAll(x, reels);
        return x;
    }

    /** Makes such an object with a past and the beginning of a command. */
    static RibbonQuarry lived(String... reels) {
        RibbonQuarry x = past(reels);
        typeAll(x, "drop 0@");
        return x;
    }

    /**
     * Makes such an object with a past: more changes than can be undone, a
     * snapshot, a cut and a splice, a line, the error position 5 and the failed
     * command 1, but no command text.
     */
    static RibbonQuarry past(String... reels) {
        RibbonQuarry x = new RibbonQuarry();
        x.append(0, 77, 6);
        for (int length = 1; length <= 9; length++) {
            x.retie(0, 0, length);
        }
        x.save();
        x.cut(0, 0, 3);
        x.splice(2, 3);
        x.describeReel(2);
        typeAll(x, "add 9x");
        Checks.outcome(x::run);
        typeAll(x, "swap 22;drop 0@0");
        Checks.outcome(x::run);
        x.remove(2, 0);
        fillAll(x, reels);
        return x;
    }

    static void fillAll(RibbonQuarry x, String... reels) {
        for (int reel = 0; reel < reels.length; reel++) {
            fill(x, reel, reels[reel]);
        }
    }

    static void fill(RibbonQuarry x, int reel, String segments) {
        int length = 0;
        for (char sign : segments.toCharArray()) {
            if (sign >= 'a') {
                x.append(reel, length, sign - 'a');
                length = 0;
            } else {
                length = length * 10 + (sign - '0');
            }
        }
    }

    /** Segments whose lengths go up from first to last and whose colours go round. */
    static String stairs(int first, int last) {
        StringBuilder segments = new StringBuilder();
        for (int length = first; length <= last; length++) {
            segments.append(length).append(letter(length % 8));
        }
        return segments.toString();
    }

    static char letter(int colour) {
        return (char) ('a' + colour);
    }

    /** The sum of all numbers from first to last: the length of these stairs. */
    static int sum(int first, int last) {
        int sum = 0;
        for (int number = first; number <= last; number++) {
            sum += number;
        }
        return sum;
    }

    /** Positions that a reel with so many segments does not have, nor a border at their place. */
    static int[] noBorders(int count) {
        return new int[] {-1, count + 1, count + 2, 61, MIN, MAX, 1 << 28, -(1 << 28)};
    }

    /** Positions that a reel with so many segments does not have. */
    static int[] noPositions(int count) {
        return new int[] {-1, count, count + 1, 60, MIN, MAX, 1 << 28, -(1 << 28)};
    }

    // ---- what is due

    static void due(Object want, Object got) {
        Checks.due(want, got);
    }

    /** The reels that are not named have no segments. */
    static void dueReels(RibbonQuarry x, String... reels) {
        for (int reel = 0; reel < 4; reel++) {
            due(reel < reels.length ? reels[reel] : "", Look.reel(x, reel));
        }
    }

    static void dueCounts(RibbonQuarry x, int... counts) {
        for (int reel = 0; reel < counts.length; reel++) {
            due(counts[reel], x.segmentCount(reel));
        }
    }

    /** The call must throw just this exception (none of its subclasses) and change nothing. */
    static void refuses(Class<?> want, Look.Maker maker, Look.Use call) {
        RibbonQuarry x = maker.make();
        due(want.getSimpleName(), Checks.outcome(() -> call.of(x)));
        due(Look.after(maker, y -> null), Look.after(maker, call));
    }

    static void index(Look.Maker maker, Look.Use call) {
        refuses(Checks.INDEX, maker, call);
    }

    static void argument(Look.Maker maker, Look.Use call) {
        refuses(Checks.ARGUMENT, maker, call);
    }

    static void state(Look.Maker maker, Look.Use call) {
        refuses(Checks.STATE, maker, call);
    }

    static void element(Look.Maker maker, Look.Use call) {
        refuses(Checks.ELEMENT, maker, call);
    }

    static void arithmetic(Look.Maker maker, Look.Use call) {
        refuses(Checks.ARITHMETIC, maker, call);
    }

    /** The call on each reel of FOUR must answer this. */
    static void eachReelAnswers(ReelUse call, Object... answers) {
        eachReelAnswers(FOUR, call, answers);
    }

    /** The call on each of these reels must answer this. */
    static void eachReelAnswers(String[] reels, ReelUse call, Object... answers) {
        for (int reel = 0; reel < 4; reel++) {
            due(answers[reel], call.of(lived(reels), reel));
        }
    }

    /** The call on each reel of FOUR must make this of it, and leave the others. */
    static void eachReelBecomes(ReelUse call, String... results) {
        for (int reel = 0; reel < 4; reel++) {
            RibbonQuarry x = lived(FOUR);
            call.of(x, reel);
            for (int other = 0; other < 4; other++) {
                due(other == reel ? results[reel] : FOUR[other], Look.reel(x, other));
            }
        }
    }

    static void noReel(ReelUse call) {
        for (int reel : NO_REELS) {
            index(() -> lived(FOUR), x -> call.of(x, reel));
        }
    }

    /** Takes a call on a range of reel 0, which holds FIVE: a range from or to a position that is not there. */
    static void noRange(RangeUse call) {
        for (int position : noPositions(5)) {
            index(() -> lived(FIVE), x -> call.of(x, position, 4));
            index(() -> lived(FIVE), x -> call.of(x, 0, position));
            index(() -> lived(FIVE), x -> call.of(x, position, position));
        }
        index(() -> lived("", "1a"), x -> call.of(x, 0, 0));
    }

    /** Takes a call on a range of reel 0, which holds FIVE: every range that ends before it begins. */
    static void backwards(RangeUse call) {
        for (int first = 1; first < 5; first++) {
            for (int last = 0; last < first; last++) {
                int from = first;
                int to = last;
                argument(() -> lived(FIVE), x -> call.of(x, from, to));
            }
        }
    }

    // ---- commands

    static void typeAll(RibbonQuarry x, String text) {
        for (char sign : text.toCharArray()) {
            x.type(sign);
        }
    }

    static int runAll(RibbonQuarry x, String text) {
        typeAll(x, text);
        return x.run();
    }

    /** What run() does besides its exception is for the caller to check. */
    static void runThrows(Class<?> want, RibbonQuarry x, String text) {
        typeAll(x, text);
        due(want.getSimpleName(), Checks.outcome(x::run));
    }
}
