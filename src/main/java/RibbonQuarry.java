import java.util.NoSuchElementException;

/**
 * Four reels of ribbon: sequences of coloured segments that are cut, spliced,
 * flipped and dyed, with sums of lengths, ranks and tangles.
 */
public final class RibbonQuarry {

    private static final int REELS = 4;
    private static final int MOST_SEGMENTS = 60;
    private static final int GREATEST_LENGTH = 99;
    private static final int COLOURS = 8;
    private static final int MOST_UNDOS = 8;
    private static final int MOST_CHARACTERS = 60;

    /** Stands for an index, a position or a colour that is not there. */
    private static final int NONE = -1;

    // A reel's sums and tangles are also kept for parts of eight positions each.
    private static final int PART_SIZE = 8;
    private static final int PARTS = 8;

    // Where things stand in a row of cells that holds all that changes can change.
    private static final int COUNTS_AT = REELS * MOST_SEGMENTS;
    private static final int PART_LENGTHS_AT = COUNTS_AT + REELS;
    private static final int PART_TANGLES_AT = PART_LENGTHS_AT + REELS * PARTS;
    private static final int CUTS_AT = PART_TANGLES_AT + REELS * PARTS;
    private static final int SPLICES_AT = CUTS_AT + 1;
    private static final int CELLS = SPLICES_AT + 1;

    // The kinds of commands, one for each call that changes reels.
    private static final int ADD = 0;
    private static final int PUT = 1;
    private static final int DROP = 2;
    private static final int TIE = 3;
    private static final int CUT = 4;
    private static final int JOIN = 5;
    private static final int SWAP = 6;
    private static final int FLIP = 7;
    private static final int DYE = 8;

    // Sixty characters hold seven commands of the shortest form and the beginning of one more.
    private static final int MOST_COMMANDS = 8;
    private static final int MOST_PARAMETERS = 4;

    // A segment takes at most "99a" and one sign between it and the next.
    private static final int LONGEST_LINE = MOST_SEGMENTS * 4;

    // What is wrong with a call: asked before a command too, where nothing is to be thrown.
    private static final int FINE = 0;
    private static final int NO_SUCH_PLACE = 1;
    private static final int BAD_ARGUMENT = 2;
    private static final int BAD_STATE = 3;

    private final Reels reels;
    private final int[] before;
    private final int[] snapshot;
    private boolean hasSnapshot;
    private final History history;
    private final Commands commands;
    private final Line line;
    private int lastError;
    private int lastFailure;

    public RibbonQuarry() {
        reels = new Reels();
        before = new int[CELLS];
        snapshot = new int[CELLS];
        hasSnapshot = false;
        history = new History();
        commands = new Commands();
        line = new Line();
        lastError = NONE;
        lastFailure = NONE;
    }

    // ---- segments

    public int append(int reel, int length, int colour)
            throws IndexOutOfBoundsException, IllegalArgumentException, IllegalStateException {
        return change(ADD, reel, length, colour, 0);
    }

    public int insert(int reel, int position, int length, int colour)
            throws IndexOutOfBoundsException, IllegalArgumentException, IllegalStateException {
        return change(PUT, reel, position, length, colour);
    }

    public int remove(int reel, int position) throws IndexOutOfBoundsException {
        return change(DROP, reel, position, 0, 0);
    }

    public int retie(int reel, int position, int length) throws IndexOutOfBoundsException, IllegalArgumentException {
        return change(TIE, reel, position, length, 0);
    }

    public int segmentCount(int reel) throws IndexOutOfBoundsException {
        raise(reelFault(reel));
        return reels.countOf(reel);
    }

    public int length(int reel, int position) throws IndexOutOfBoundsException {
        raise(positionFault(reel, position));
        return reels.lengthAt(reel, position);
    }

    public int colour(int reel, int position) throws IndexOutOfBoundsException {
        raise(positionFault(reel, position));
        return reels.colourAt(reel, position);
    }

    // ---- cuts and splices

    public int cut(int reel, int position, int other)
            throws IndexOutOfBoundsException, IllegalArgumentException, IllegalStateException {
        return change(CUT, reel, position, other, 0);
    }

    public int splice(int reel, int other)
            throws IndexOutOfBoundsException, IllegalArgumentException, IllegalStateException {
        return change(JOIN, reel, other, 0, 0);
    }

    public int exchange(int reel, int other) throws IndexOutOfBoundsException {
        return change(SWAP, reel, other, 0, 0);
    }

    public int flip(int reel, int first, int last) throws IndexOutOfBoundsException, IllegalArgumentException {
        return change(FLIP, reel, first, last, 0);
    }

    public int dye(int reel, int first, int last, int colour)
            throws IndexOutOfBoundsException, IllegalArgumentException {
        return change(DYE, reel, first, last, colour);
    }

    // ---- lengths

    public int reelLength(int reel) throws IndexOutOfBoundsException {
        raise(reelFault(reel));
        return reels.lengthOf(reel);
    }

    public int lengthBefore(int reel, int position) throws IndexOutOfBoundsException {
        raise(borderFault(reel, position));
        return reels.sumBefore(reel, position);
    }

    public int lengthBeforeByScan(int reel, int position) throws IndexOutOfBoundsException {
        raise(borderFault(reel, position));
        return reels.sumOfRange(reel, 0, position - 1);
    }

    public int positionAt(int reel, int offset) throws IndexOutOfBoundsException, NoSuchElementException {
        raise(reelFault(reel));
        return found(reels.positionOfOffset(reel, offset));
    }

    public int rangeLength(int reel, int first, int last) throws IndexOutOfBoundsException, IllegalArgumentException {
        raise(rangeFault(reel, first, last));
        return reels.sumOfRange(reel, first, last);
    }

    public int longestInRange(int reel, int first, int last)
            throws IndexOutOfBoundsException, IllegalArgumentException {
        raise(rangeFault(reel, first, last));
        return reels.longestOfRange(reel, first, last);
    }

    public int segmentAtRank(int reel, int rank) throws IndexOutOfBoundsException, NoSuchElementException {
        raise(reelFault(reel));
        return found(reels.positionOfRank(reel, rank));
    }

    public long totalLength() {
        long sum = 0;
        for (int reel = 0; reel < REELS; reel++) {
            sum += reels.lengthOf(reel);
        }
        return sum;
    }

    // ---- colours and tangles

    public int tangleCount(int reel) throws IndexOutOfBoundsException {
        raise(reelFault(reel));
        return reels.tanglesOf(reel);
    }

    public int tangleCountByScan(int reel) throws IndexOutOfBoundsException {
        raise(reelFault(reel));
        return reels.tanglesByScan(reel);
    }

    public boolean isTangled(int reel, int position) throws IndexOutOfBoundsException {
        raise(positionFault(reel, position));
        return reels.areTangled(reel, position - 1) || reels.areTangled(reel, position);
    }

    public int longestRun(int reel) throws IndexOutOfBoundsException {
        raise(reelFault(reel));
        return reels.longestRunOf(reel);
    }

    public int nextOfColour(int reel, int position, int colour)
            throws IndexOutOfBoundsException, IllegalArgumentException, NoSuchElementException {
        raise(positionFault(reel, position));
        raise(colourFault(colour));
        return found(reels.positionOfColour(reel, position, colour));
    }

    public int colourLength(int reel, int colour) throws IndexOutOfBoundsException, IllegalArgumentException {
        raise(reelFault(reel));
        raise(colourFault(colour));
        return reels.sumOfColour(reel, colour);
    }

    public int colourAtRank(int reel, int rank) throws IndexOutOfBoundsException, NoSuchElementException {
        raise(reelFault(reel));
        return found(reels.colourOfRank(reel, rank));
    }

    // ---- comparisons

    public boolean isSymmetric(int reel) throws IndexOutOfBoundsException {
        raise(reelFault(reel));
        return reels.readsTheSameBackwards(reel);
    }

    public int commonBeginning(int reel, int other) throws IndexOutOfBoundsException {
        raise(pairFault(reel, other));
        return reels.sharedBeginning(reel, other);
    }

    public boolean areEqual(int reel, int other) throws IndexOutOfBoundsException {
        raise(pairFault(reel, other));
        int count = reels.countOf(reel);
        return count == reels.countOf(other) && count == reels.sharedBeginning(reel, other);
    }

    // ---- totals

    public int cutCount() {
        return reels.cellAt(CUTS_AT);
    }

    public int spliceCount() {
        return reels.cellAt(SPLICES_AT);
    }

    // ---- commands

    public int type(char character) throws IllegalArgumentException, IllegalStateException {
        if (character < 32 || character > 126) {
            throw new IllegalArgumentException("the code of the character is not from 32 to 126");
        }
        if (commands.isFull()) {
            throw new IllegalStateException("the command text has 60 characters");
        }
        return commands.addCharacter(character);
    }

    public int run() throws IllegalArgumentException, IllegalStateException {
        int error = commands.parse();
        commands.clearText();
        if (error != NONE) {
            lastError = error;
            throw new IllegalArgumentException("the text is not a command text");
        }
        reels.copyTo(before, 0);
        int failure = carryOutCommands();
        if (failure != NONE) {
            reels.copyFrom(before, 0);
            lastFailure = failure;
            throw new IllegalStateException("a command fails");
        }
        history.keep(before);
        reels.refreshParts();
        return commands.commandCount();
    }

    public int errorPosition() throws NoSuchElementException {
        return found(lastError);
    }

    public int failedCommand() throws NoSuchElementException {
        return found(lastFailure);
    }

    // ---- line, statistics, undo, snapshot

    public int describeReel(int reel) throws IndexOutOfBoundsException {
        raise(reelFault(reel));
        line.clear();
        for (int position = 0; position < reels.countOf(reel); position++) {
            if (position > 0) {
                line.add(reels.areTangled(reel, position - 1) ? '=' : '-');
            }
            line.addNumber(reels.lengthAt(reel, position));
            line.add((char) ('a' + reels.colourAt(reel, position)));
        }
        return line.size();
    }

    public char lineAt(int index) throws IndexOutOfBoundsException {
        if (index < 0 || index >= line.size()) {
            throw new IndexOutOfBoundsException("there is no such index in the line");
        }
        return line.characterAt(index);
    }

    public double meanLength(int reel) throws IndexOutOfBoundsException, ArithmeticException {
        raise(reelFault(reel));
        int count = reels.countOf(reel);
        if (count == 0) {
            throw new ArithmeticException("the reel has no segments");
        }
        return (double) reels.lengthOf(reel) / (double) count;
    }

    public float colourShare(int reel, int colour)
            throws IndexOutOfBoundsException, IllegalArgumentException, ArithmeticException {
        raise(reelFault(reel));
        raise(colourFault(colour));
        // Every segment has a length of at least 1, so only a reel without segments has the length 0.
        int whole = reels.lengthOf(reel);
        if (whole == 0) {
            throw new ArithmeticException("the reel has no segments");
        }
        return (float) reels.sumOfColour(reel, colour) / (float) whole;
    }

    public boolean isConsistent() {
        for (int reel = 0; reel < REELS; reel++) {
            if (!reels.partsAgree(reel)) {
                return false;
            }
        }
        return true;
    }

    public int undo() throws IllegalStateException {
        if (history.size() == 0) {
            throw new IllegalStateException("there is no change to undo");
        }
        history.takeBack(reels);
        return history.size();
    }

    public int save() {
        reels.copyTo(snapshot, 0);
        hasSnapshot = true;
        return reels.countOfAll();
    }

    public int restore() throws IllegalStateException {
        if (!hasSnapshot) {
            throw new IllegalStateException("there is no snapshot");
        }
        reels.copyFrom(snapshot, 0);
        history.forget();
        return reels.countOfAll();
    }

    // ---- what is wrong with a call

    private static void raise(int fault) {
        switch (fault) {
            case NO_SUCH_PLACE:
                throw new IndexOutOfBoundsException("there is no such reel or position");
            case BAD_ARGUMENT:
                throw new IllegalArgumentException("an argument is out of range");
            case BAD_STATE:
                throw new IllegalStateException("the reels do not allow it");
            default:
                return;
        }
    }

    private static int found(int answer) {
        if (answer == NONE) {
            throw new NoSuchElementException("there is no such element");
        }
        return answer;
    }

    private static boolean isReel(int reel) {
        return reel >= 0 && reel < REELS;
    }

    private static boolean isLength(int length) {
        return length >= 1 && length <= GREATEST_LENGTH;
    }

    private static boolean isColour(int colour) {
        return colour >= 0 && colour < COLOURS;
    }

    private boolean isPosition(int reel, int position) {
        return isReel(reel) && position >= 0 && position < reels.countOf(reel);
    }

    private static int reelFault(int reel) {
        return isReel(reel) ? FINE : NO_SUCH_PLACE;
    }

    private static int pairFault(int reel, int other) {
        return isReel(reel) && isReel(other) ? FINE : NO_SUCH_PLACE;
    }

    private static int colourFault(int colour) {
        return isColour(colour) ? FINE : BAD_ARGUMENT;
    }

    private int positionFault(int reel, int position) {
        return isPosition(reel, position) ? FINE : NO_SUCH_PLACE;
    }

    /** A border lies before a segment or behind the last one. */
    private int borderFault(int reel, int position) {
        boolean isBorder = isReel(reel) && position >= 0 && position <= reels.countOf(reel);
        return isBorder ? FINE : NO_SUCH_PLACE;
    }

    private int rangeFault(int reel, int first, int last) {
        if (!isPosition(reel, first) || !isPosition(reel, last)) {
            return NO_SUCH_PLACE;
        }
        return first <= last ? FINE : BAD_ARGUMENT;
    }

    private int addFault(int reel, int length, int colour) {
        if (!isReel(reel)) {
            return NO_SUCH_PLACE;
        }
        return newSegmentFault(reel, length, colour);
    }

    private int putFault(int reel, int position, int length, int colour) {
        if (borderFault(reel, position) != FINE) {
            return NO_SUCH_PLACE;
        }
        return newSegmentFault(reel, length, colour);
    }

    private int newSegmentFault(int reel, int length, int colour) {
        if (!isLength(length) || !isColour(colour)) {
            return BAD_ARGUMENT;
        }
        return reels.countOf(reel) < MOST_SEGMENTS ? FINE : BAD_STATE;
    }

    private int tieFault(int reel, int position, int length) {
        if (!isPosition(reel, position)) {
            return NO_SUCH_PLACE;
        }
        return isLength(length) ? FINE : BAD_ARGUMENT;
    }

    private int cutFault(int reel, int position, int other) {
        if (borderFault(reel, position) != FINE || !isReel(other)) {
            return NO_SUCH_PLACE;
        }
        if (reel == other) {
            return BAD_ARGUMENT;
        }
        return reels.countOf(other) == 0 ? FINE : BAD_STATE;
    }

    private int joinFault(int reel, int other) {
        if (pairFault(reel, other) != FINE) {
            return NO_SUCH_PLACE;
        }
        if (reel == other) {
            return BAD_ARGUMENT;
        }
        return reels.countOf(reel) + reels.countOf(other) <= MOST_SEGMENTS ? FINE : BAD_STATE;
    }

    private int dyeFault(int reel, int first, int last, int colour) {
        int fault = rangeFault(reel, first, last);
        return fault == FINE ? colourFault(colour) : fault;
    }

    // ---- changes

    /** The parameters are those of the call that the kind stands for, in their order. */
    private int change(int kind, int reel, int second, int third, int fourth) {
        raise(faultOf(kind, reel, second, third, fourth));
        reels.copyTo(before, 0);
        history.keep(before);
        int answer = carryOut(kind, reel, second, third, fourth);
        reels.refreshParts();
        return answer;
    }

    private int faultOf(int kind, int reel, int second, int third, int fourth) {
        switch (kind) {
            case ADD:
                return addFault(reel, second, third);
            case PUT:
                return putFault(reel, second, third, fourth);
            case DROP:
                return positionFault(reel, second);
            case TIE:
                return tieFault(reel, second, third);
            case CUT:
                return cutFault(reel, second, third);
            case JOIN:
                return joinFault(reel, second);
            case SWAP:
                return pairFault(reel, second);
            case FLIP:
                return rangeFault(reel, second, third);
            case DYE:
                return dyeFault(reel, second, third, fourth);
            default:
                return BAD_STATE;
        }
    }

    private int carryOut(int kind, int reel, int second, int third, int fourth) {
        switch (kind) {
            case ADD:
                return reels.putIn(reel, reels.countOf(reel), second, third);
            case PUT:
                return reels.putIn(reel, second, third, fourth);
            case DROP:
                return reels.takeOut(reel, second);
            case TIE:
                return reels.setLength(reel, second, third);
            case CUT:
                return reels.cutOff(reel, second, third);
            case JOIN:
                return reels.join(reel, second);
            case SWAP:
                return reels.swap(reel, second);
            case FLIP:
                return reels.reverse(reel, second, third);
            case DYE:
                return reels.paint(reel, second, third, fourth);
            default:
                return NONE;
        }
    }

    /** Stops at the first command that fails and returns its index, or NONE. */
    private int carryOutCommands() {
        for (int index = 0; index < commands.commandCount(); index++) {
            int kind = commands.kindOf(index);
            int reel = commands.parameterOf(index, 0);
            int second = commands.parameterOf(index, 1);
            int third = commands.parameterOf(index, 2);
            int fourth = commands.parameterOf(index, 3);
            if (faultOf(kind, reel, second, third, fourth) != FINE) {
                return index;
            }
            carryOut(kind, reel, second, third, fourth);
        }
        return NONE;
    }

    /** Copies a row of all that changes can change. */
    private static void copyRow(int[] from, int fromAt, int[] to, int toAt) {
        if (hasRowAt(from, fromAt) && hasRowAt(to, toAt)) {
            System.arraycopy(from, fromAt, to, toAt, CELLS);
        }
    }

    private static boolean hasRowAt(int[] cells, int at) {
        return at >= 0 && at <= cells.length - CELLS;
    }

    /**
     * All that changes can change, in one row of cells, so that undo and the
     * snapshot copy a row. The callers have checked reels and positions; a cell's
     * index is tested all the same, so that the machine never throws.
     */
    private static final class Reels {
        private final int[] cells = new int[CELLS];

        private int cellAt(int index) {
            return index >= 0 && index < cells.length ? cells[index] : 0;
        }

        private void setCell(int index, int value) {
            if (index >= 0 && index < cells.length) {
                cells[index] = value;
            }
        }

        private void copyTo(int[] rows, int at) {
            copyRow(cells, 0, rows, at);
        }

        private void copyFrom(int[] rows, int at) {
            copyRow(rows, at, cells, 0);
        }

        private int countOf(int reel) {
            return cellAt(COUNTS_AT + reel);
        }

        private void setCount(int reel, int count) {
            setCell(COUNTS_AT + reel, count);
        }

        private int countOfAll() {
            int sum = 0;
            for (int reel = 0; reel < REELS; reel++) {
                sum += countOf(reel);
            }
            return sum;
        }

        private static int placeOf(int reel, int position) {
            return reel * MOST_SEGMENTS + position;
        }

        /** A segment is one number of its length and its colour, so that it moves as one. */
        private int segmentAt(int reel, int position) {
            return cellAt(placeOf(reel, position));
        }

        private void setSegment(int reel, int position, int segment) {
            setCell(placeOf(reel, position), segment);
        }

        private int lengthAt(int reel, int position) {
            return segmentAt(reel, position) / COLOURS;
        }

        private int colourAt(int reel, int position) {
            return segmentAt(reel, position) % COLOURS;
        }

        /** Tells whether a position and the next one hold a tangle; positions that do not exist hold none. */
        private boolean areTangled(int reel, int position) {
            return position >= 0 && position + 1 < countOf(reel)
                    && colourAt(reel, position) == colourAt(reel, position + 1);
        }

        // ---- changes; each returns what the call that it stands for answers, and leaves the parts to refreshParts

        private int putIn(int reel, int position, int length, int colour) {
            int count = countOf(reel);
            for (int place = count; place > position; place--) {
                setSegment(reel, place, segmentAt(reel, place - 1));
            }
            setSegment(reel, position, length * COLOURS + colour);
            setCount(reel, count + 1);
            return count + 1;
        }

        private int takeOut(int reel, int position) {
            int length = lengthAt(reel, position);
            int rest = countOf(reel) - 1;
            for (int place = position; place < rest; place++) {
                setSegment(reel, place, segmentAt(reel, place + 1));
            }
            setCount(reel, rest);
            return length;
        }

        private int setLength(int reel, int position, int length) {
            int previous = lengthAt(reel, position);
            setSegment(reel, position, length * COLOURS + colourAt(reel, position));
            return previous;
        }

        private int cutOff(int reel, int position, int other) {
            int moved = countOf(reel) - position;
            moveTail(reel, position, other);
            setCell(CUTS_AT, cellAt(CUTS_AT) + 1);
            return moved;
        }

        private int join(int reel, int other) {
            moveTail(other, 0, reel);
            setCell(SPLICES_AT, cellAt(SPLICES_AT) + 1);
            return countOf(reel);
        }

        private void moveTail(int from, int position, int to) {
            int moved = countOf(from) - position;
            int end = countOf(to);
            for (int step = 0; step < moved; step++) {
                setSegment(to, end + step, segmentAt(from, position + step));
            }
            setCount(to, end + moved);
            setCount(from, position);
        }

        private int swap(int reel, int other) {
            int count = countOf(reel);
            int otherCount = countOf(other);
            for (int position = 0; position < MOST_SEGMENTS; position++) {
                swapSegments(reel, position, other, position);
            }
            setCount(reel, otherCount);
            setCount(other, count);
            return otherCount;
        }

        private void swapSegments(int reel, int position, int other, int otherPosition) {
            int segment = segmentAt(reel, position);
            setSegment(reel, position, segmentAt(other, otherPosition));
            setSegment(other, otherPosition, segment);
        }

        private int reverse(int reel, int first, int last) {
            int left = first;
            int right = last;
            while (left < right) {
                swapSegments(reel, left, reel, right);
                left++;
                right--;
            }
            return sumOfRange(reel, first, last);
        }

        private int paint(int reel, int first, int last, int colour) {
            int changed = 0;
            for (int position = first; position <= last; position++) {
                if (colourAt(reel, position) != colour) {
                    changed++;
                }
                setSegment(reel, position, lengthAt(reel, position) * COLOURS + colour);
            }
            return changed;
        }

        // ---- parts

        private void refreshParts() {
            for (int reel = 0; reel < REELS; reel++) {
                for (int part = 0; part < PARTS; part++) {
                    refreshPart(reel, part);
                }
            }
        }

        private void refreshPart(int reel, int part) {
            int first = part * PART_SIZE;
            int last = Math.min(first + PART_SIZE, countOf(reel)) - 1;
            int tangles = 0;
            for (int position = first; position < last; position++) {
                if (areTangled(reel, position)) {
                    tangles++;
                }
            }
            setCell(PART_LENGTHS_AT + reel * PARTS + part, sumOfRange(reel, first, last));
            setCell(PART_TANGLES_AT + reel * PARTS + part, tangles);
        }

        private int sumBefore(int reel, int position) {
            int wholeParts = position / PART_SIZE;
            int sum = 0;
            for (int part = 0; part < wholeParts; part++) {
                sum += cellAt(PART_LENGTHS_AT + reel * PARTS + part);
            }
            return sum + sumOfRange(reel, wholeParts * PART_SIZE, position - 1);
        }

        private int lengthOf(int reel) {
            return sumBefore(reel, countOf(reel));
        }

        /** The tangles inside the parts, and those of two segments where one part ends and the next begins. */
        private int tanglesOf(int reel) {
            int tangles = 0;
            for (int part = 0; part < PARTS; part++) {
                tangles += cellAt(PART_TANGLES_AT + reel * PARTS + part);
                if (areTangled(reel, part * PART_SIZE - 1)) {
                    tangles++;
                }
            }
            return tangles;
        }

        private int tanglesByScan(int reel) {
            int tangles = 0;
            for (int position = 1; position < countOf(reel); position++) {
                if (areTangled(reel, position - 1)) {
                    tangles++;
                }
            }
            return tangles;
        }

        private boolean partsAgree(int reel) {
            if (tanglesOf(reel) != tanglesByScan(reel)) {
                return false;
            }
            for (int position = 0; position <= countOf(reel); position++) {
                if (sumBefore(reel, position) != sumOfRange(reel, 0, position - 1)) {
                    return false;
                }
            }
            return true;
        }

        // ---- lengths and ranks

        /** The sum from first to last, segment by segment; 0 if last lies before first. */
        private int sumOfRange(int reel, int first, int last) {
            int sum = 0;
            for (int position = first; position <= last; position++) {
                sum += lengthAt(reel, position);
            }
            return sum;
        }

        private int positionOfOffset(int reel, int offset) {
            if (offset < 0) {
                return NONE;
            }
            int end = 0;
            for (int position = 0; position < countOf(reel); position++) {
                end += lengthAt(reel, position);
                if (offset < end) {
                    return position;
                }
            }
            return NONE;
        }

        private int longestOfRange(int reel, int first, int last) {
            int longest = first;
            for (int position = first + 1; position <= last; position++) {
                if (lengthAt(reel, position) > lengthAt(reel, longest)) {
                    longest = position;
                }
            }
            return longest;
        }

        private int positionOfRank(int reel, int rank) {
            for (int position = 0; position < countOf(reel); position++) {
                if (rankOfSegment(reel, position) == rank) {
                    return position;
                }
            }
            return NONE;
        }

        private int rankOfSegment(int reel, int position) {
            int length = lengthAt(reel, position);
            int rank = 0;
            for (int other = 0; other < countOf(reel); other++) {
                int otherLength = lengthAt(reel, other);
                if (otherLength > length || otherLength == length && other < position) {
                    rank++;
                }
            }
            return rank;
        }

        // ---- colours

        private int longestRunOf(int reel) {
            int longest = 0;
            int current = 0;
            for (int position = 0; position < countOf(reel); position++) {
                current = areTangled(reel, position - 1) ? current + 1 : 1;
                longest = Math.max(longest, current);
            }
            return longest;
        }

        private int positionOfColour(int reel, int first, int colour) {
            for (int position = first; position < countOf(reel); position++) {
                if (colourAt(reel, position) == colour) {
                    return position;
                }
            }
            return NONE;
        }

        private int sumOfColour(int reel, int colour) {
            int sum = 0;
            for (int position = 0; position < countOf(reel); position++) {
                if (colourAt(reel, position) == colour) {
                    sum += lengthAt(reel, position);
                }
            }
            return sum;
        }

        private int colourOfRank(int reel, int rank) {
            for (int colour = 0; colour < COLOURS; colour++) {
                // A colour that a segment has has a sum above 0, for no segment has the length 0.
                int sum = sumOfColour(reel, colour);
                if (sum > 0 && rankOfColour(reel, colour, sum) == rank) {
                    return colour;
                }
            }
            return NONE;
        }

        private int rankOfColour(int reel, int colour, int sum) {
            int rank = 0;
            for (int other = 0; other < COLOURS; other++) {
                int otherSum = sumOfColour(reel, other);
                if (otherSum > sum || otherSum == sum && other < colour) {
                    rank++;
                }
            }
            return rank;
        }

        // ---- comparisons

        private boolean readsTheSameBackwards(int reel) {
            int left = 0;
            int right = countOf(reel) - 1;
            while (left < right) {
                if (segmentAt(reel, left) != segmentAt(reel, right)) {
                    return false;
                }
                left++;
                right--;
            }
            return true;
        }

        private int sharedBeginning(int reel, int other) {
            int most = Math.min(countOf(reel), countOf(other));
            for (int position = 0; position < most; position++) {
                if (segmentAt(reel, position) != segmentAt(other, position)) {
                    return position;
                }
            }
            return most;
        }
    }

    /** The rows before the latest changes, in a ring: the oldest row gives way to the newest. */
    private static final class History {
        private final int[] rows = new int[MOST_UNDOS * CELLS];
        private int next = 0;
        private int size = 0;

        private int size() {
            return size;
        }

        private void keep(int[] row) {
            copyRow(row, 0, rows, next * CELLS);
            next = next + 1 < MOST_UNDOS ? next + 1 : 0;
            size = Math.min(size + 1, MOST_UNDOS);
        }

        private void takeBack(Reels reels) {
            next = next > 0 ? next - 1 : MOST_UNDOS - 1;
            size--;
            reels.copyFrom(rows, next * CELLS);
        }

        private void forget() {
            size = 0;
        }
    }

    /** The command text, and the commands that were read from it last. */
    private static final class Commands {
        private final char[] text = new char[MOST_CHARACTERS];
        private int size = 0;
        private int at = 0;
        private final int[] kinds = new int[MOST_COMMANDS];
        private final int[] parameters = new int[MOST_COMMANDS * MOST_PARAMETERS];
        private int commandCount = 0;
        private int parameterCount = 0;

        private boolean isFull() {
            return size >= text.length;
        }

        private int addCharacter(char character) {
            if (size >= 0 && size < text.length) {
                text[size] = character;
                size++;
            }
            return size;
        }

        private void clearText() {
            size = 0;
        }

        private int commandCount() {
            return commandCount;
        }

        private int kindOf(int command) {
            return command >= 0 && command < kinds.length ? kinds[command] : NONE;
        }

        private int parameterOf(int command, int number) {
            int index = command * MOST_PARAMETERS + number;
            return index >= 0 && index < parameters.length ? parameters[index] : 0;
        }

        /** Returns the error position, or NONE if the text is a command text. */
        private int parse() {
            at = 0;
            commandCount = 0;
            for (int round = 0; round < MOST_COMMANDS; round++) {
                if (!readCommand()) {
                    return at;
                }
                if (at == size) {
                    return NONE;
                }
                if (!readSign(';')) {
                    return at;
                }
            }
            return at;
        }

        /** Reads up to the end of a command, or up to the first character that cannot continue it. */
        private boolean readCommand() {
            int kind = kindAhead();
            String form = formOf(kind);
            if (form.isEmpty()) {
                return false;
            }
            parameterCount = 0;
            for (int index = 0; index < form.length(); index++) {
                if (!readPiece(form.charAt(index))) {
                    return false;
                }
            }
            addCommand(kind);
            return true;
        }

        /** Behind a "d" the next letter decides; where it fits neither, reading either word ends there. */
        private int kindAhead() {
            switch (signAt(at)) {
                case 'a':
                    return ADD;
                case 'p':
                    return PUT;
                case 'd':
                    return signAt(at + 1) == 'y' ? DYE : DROP;
                case 't':
                    return TIE;
                case 'c':
                    return CUT;
                case 'j':
                    return JOIN;
                case 's':
                    return SWAP;
                case 'f':
                    return FLIP;
                default:
                    return NONE;
            }
        }

        /** In a form, D stands for a digit, N for a number, C for a colour, other signs for themselves. */
        private static String formOf(int kind) {
            switch (kind) {
                case ADD:
                    return "add D NC";
                case PUT:
                    return "put D@N NC";
                case DROP:
                    return "drop D@N";
                case TIE:
                    return "tie D@N=N";
                case CUT:
                    return "cut D@N>D";
                case JOIN:
                    return "join D<D";
                case SWAP:
                    return "swap DD";
                case FLIP:
                    return "flip D@N-N";
                case DYE:
                    return "dye D@N-N C";
                default:
                    return "";
            }
        }

        private boolean readPiece(char piece) {
            switch (piece) {
                case 'D':
                    return readDigits(1);
                case 'N':
                    return readDigits(2);
                case 'C':
                    return readColour();
                default:
                    return readSign(piece);
            }
        }

        private boolean readDigits(int most) {
            int number = 0;
            int digits = 0;
            while (digits < most && isDigit(signAt(at))) {
                number = number * 10 + (signAt(at) - '0');
                digits++;
                at++;
            }
            if (digits == 0) {
                return false;
            }
            addParameter(number);
            return true;
        }

        private boolean readColour() {
            int colour = signAt(at) - 'a';
            if (!isColour(colour)) {
                return false;
            }
            addParameter(colour);
            at++;
            return true;
        }

        private boolean readSign(char sign) {
            if (signAt(at) != sign) {
                return false;
            }
            at++;
            return true;
        }

        private static boolean isDigit(char sign) {
            return sign >= '0' && sign <= '9';
        }

        /** Behind the end stands the sign 0, which no command has. */
        private char signAt(int index) {
            return index >= 0 && index < size && index < text.length ? text[index] : (char) 0;
        }

        private void addParameter(int value) {
            int index = commandCount * MOST_PARAMETERS + parameterCount;
            if (index >= 0 && index < parameters.length) {
                parameters[index] = value;
            }
            parameterCount++;
        }

        private void addCommand(int kind) {
            if (commandCount >= 0 && commandCount < kinds.length) {
                kinds[commandCount] = kind;
                commandCount++;
            }
        }
    }

    /** The line that describes a reel. */
    private static final class Line {
        private final char[] characters = new char[LONGEST_LINE];
        private int size = 0;

        private int size() {
            return size;
        }

        private void clear() {
            size = 0;
        }

        private void add(char character) {
            if (size >= 0 && size < characters.length) {
                characters[size] = character;
                size++;
            }
        }

        /** Writes a number below 100. */
        private void addNumber(int number) {
            if (number >= 10) {
                add((char) ('0' + number / 10));
            }
            add((char) ('0' + number % 10));
        }

        private char characterAt(int index) {
            return index >= 0 && index < characters.length ? characters[index] : (char) 0;
        }
    }
}
