import java.util.ArrayDeque;
import java.util.ArrayList;
import java.util.Collections;
import java.util.List;
import java.util.NoSuchElementException;
import java.util.regex.Matcher;
import java.util.regex.Pattern;

/**
 * The document once more, with the Java library and in another way than the
 * class: lists that are copied whole, and the form of the commands as a pattern.
 */
final class PlainModel {

    record Segment(int length, int colour) {
    }

    /** All that changes can change. */
    private static final class State {
        final List<List<Segment>> reels = new ArrayList<>();
        int cuts = 0;
        int splices = 0;

        State copy() {
            State copy = new State();
            for (List<Segment> reel : reels) {
                copy.reels.add(new ArrayList<>(reel));
            }
            copy.cuts = cuts;
            copy.splices = splices;
            return copy;
        }
    }

    private static final String COMMAND = "(?:add \\d \\d\\d?[a-h]|put \\d@\\d\\d? \\d\\d?[a-h]|drop \\d@\\d\\d?"
            + "|tie \\d@\\d\\d?=\\d\\d?|cut \\d@\\d\\d?>\\d|join \\d<\\d|swap \\d\\d|flip \\d@\\d\\d?-\\d\\d?"
            + "|dye \\d@\\d\\d?-\\d\\d? [a-h])";
    private static final Pattern TEXT = Pattern.compile(COMMAND + "(?:;" + COMMAND + ")*");

    private State now = new State();
    private State snapshot = null;
    private final ArrayDeque<State> undoable = new ArrayDeque<>();
    private final StringBuilder text = new StringBuilder();
    private String line = "";
    private Integer error = null;
    private Integer failed = null;

    PlainModel() {
        for (int reel = 0; reel < 4; reel++) {
            now.reels.add(new ArrayList<>());
        }
    }

    private List<Segment> reel(int reel) {
        index(reel >= 0 && reel < 4);
        return now.reels.get(reel);
    }

    private Segment segment(int reel, int position) {
        List<Segment> segments = reel(reel);
        index(position >= 0 && position < segments.size());
        return segments.get(position);
    }

    private List<Segment> range(int reel, int first, int last) {
        segment(reel, first);
        segment(reel, last);
        argument(first <= last);
        return now.reels.get(reel).subList(first, last + 1);
    }

    private static void index(boolean fine) {
        if (!fine) {
            throw new IndexOutOfBoundsException();
        }
    }

    private static void argument(boolean fine) {
        if (!fine) {
            throw new IllegalArgumentException();
        }
    }

    private static void state(boolean fine) {
        if (!fine) {
            throw new IllegalStateException();
        }
    }

    private static void element(boolean fine) {
        if (!fine) {
            throw new NoSuchElementException();
        }
    }

    private static int sum(List<Segment> segments) {
        return segments.stream().mapToInt(Segment::length).sum();
    }

    private void change() {
        undoable.addLast(now.copy());
        if (undoable.size() > 8) {
            undoable.removeFirst();
        }
    }

    int append(int reel, int length, int colour) {
        return insert(reel, reel(reel).size(), length, colour);
    }

    int insert(int reel, int position, int length, int colour) {
        index(position >= 0 && position <= reel(reel).size());
        argument(length >= 1 && length <= 99 && colour >= 0 && colour <= 7);
        state(reel(reel).size() < 60);
        change();
        reel(reel).add(position, new Segment(length, colour));
        return reel(reel).size();
    }

    int remove(int reel, int position) {
        int length = segment(reel, position).length();
        change();
        reel(reel).remove(position);
        return length;
    }

    int retie(int reel, int position, int length) {
        Segment old = segment(reel, position);
        argument(length >= 1 && length <= 99);
        change();
        reel(reel).set(position, new Segment(length, old.colour()));
        return old.length();
    }

    int cut(int reel, int position, int other) {
        index(position >= 0 && position <= reel(reel).size());
        reel(other);
        argument(reel != other);
        state(reel(other).isEmpty());
        change();
        List<Segment> tail = reel(reel).subList(position, reel(reel).size());
        reel(other).addAll(tail);
        tail.clear();
        now.cuts++;
        return reel(other).size();
    }

    int splice(int reel, int other) {
        index(reel(reel).size() + reel(other).size() >= 0);
        argument(reel != other);
        state(reel(reel).size() + reel(other).size() <= 60);
        change();
        reel(reel).addAll(reel(other));
        reel(other).clear();
        now.splices++;
        return reel(reel).size();
    }

    int exchange(int reel, int other) {
        index(reel(reel).size() + reel(other).size() >= 0);
        change();
        Collections.swap(now.reels, reel, other);
        return reel(reel).size();
    }

    int flip(int reel, int first, int last) {
        range(reel, first, last);
        change();
        Collections.reverse(range(reel, first, last));
        return sum(range(reel, first, last));
    }

    int dye(int reel, int first, int last, int colour) {
        range(reel, first, last);
        argument(colour >= 0 && colour <= 7);
        change();
        List<Segment> range = range(reel, first, last);
        int changed = (int) range.stream().filter(s -> s.colour() != colour).count();
        range.replaceAll(s -> new Segment(s.length(), colour));
        return changed;
    }

    int segmentCount(int reel) {
        return reel(reel).size();
    }

    int length(int reel, int position) {
        return segment(reel, position).length();
    }

    int colour(int reel, int position) {
        return segment(reel, position).colour();
    }

    int reelLength(int reel) {
        return sum(reel(reel));
    }

    int lengthBefore(int reel, int position) {
        index(position >= 0 && position <= reel(reel).size());
        return sum(reel(reel).subList(0, position));
    }

    int positionAt(int reel, int offset) {
        element(reel(reel) != null && offset >= 0 && offset < reelLength(reel));
        int position = 0;
        while (lengthBefore(reel, position + 1) <= offset) {
            position++;
        }
        return position;
    }

    int rangeLength(int reel, int first, int last) {
        return sum(range(reel, first, last));
    }

    int longestInRange(int reel, int first, int last) {
        List<Integer> lengths = range(reel, first, last).stream().map(Segment::length).toList();
        return first + lengths.indexOf(Collections.max(lengths));
    }

    int segmentAtRank(int reel, int rank) {
        List<Integer> positions = new ArrayList<>();
        for (int position = 0; position < reel(reel).size(); position++) {
            positions.add(position);
        }
        positions.sort((a, b) -> length(reel, b) - length(reel, a));
        element(rank >= 0 && rank < positions.size());
        return positions.get(rank);
    }

    long totalLength() {
        return now.reels.stream().mapToLong(PlainModel::sum).sum();
    }

    int tangleCount(int reel) {
        int tangles = 0;
        for (int position = 1; position < reel(reel).size(); position++) {
            tangles += colour(reel, position) == colour(reel, position - 1) ? 1 : 0;
        }
        return tangles;
    }

    boolean isTangled(int reel, int position) {
        int colour = segment(reel, position).colour();
        return position > 0 && colour(reel, position - 1) == colour
                || position + 1 < reel(reel).size() && colour(reel, position + 1) == colour;
    }

    int longestRun(int reel) {
        int longest = 0;
        for (int first = 0; first < reel(reel).size(); first++) {
            int end = first;
            while (end < reel(reel).size() && colour(reel, end) == colour(reel, first)) {
                end++;
            }
            longest = Math.max(longest, end - first);
        }
        return longest;
    }

    int nextOfColour(int reel, int position, int colour) {
        segment(reel, position);
        argument(colour >= 0 && colour <= 7);
        List<Integer> colours = reel(reel).stream().skip(position).map(Segment::colour).toList();
        element(colours.contains(colour));
        return position + colours.indexOf(colour);
    }

    int colourLength(int reel, int colour) {
        index(reel(reel) != null);
        argument(colour >= 0 && colour <= 7);
        return reel(reel).stream().filter(s -> s.colour() == colour).mapToInt(Segment::length).sum();
    }

    int colourAtRank(int reel, int rank) {
        List<Integer> colours = new ArrayList<>(reel(reel).stream().map(Segment::colour).distinct().sorted().toList());
        colours.sort((a, b) -> colourLength(reel, b) - colourLength(reel, a));
        element(rank >= 0 && rank < colours.size());
        return colours.get(rank);
    }

    boolean isSymmetric(int reel) {
        List<Segment> reverse = new ArrayList<>(reel(reel));
        Collections.reverse(reverse);
        return reverse.equals(reel(reel));
    }

    int commonBeginning(int reel, int other) {
        int most = Math.min(reel(reel).size(), reel(other).size());
        int common = 0;
        while (common < most && reel(reel).get(common).equals(reel(other).get(common))) {
            common++;
        }
        return common;
    }

    boolean areEqual(int reel, int other) {
        return reel(reel).equals(reel(other));
    }

    int cutCount() {
        return now.cuts;
    }

    int spliceCount() {
        return now.splices;
    }

    int type(char character) {
        argument(character >= ' ' && character <= '~');
        state(text.length() < 60);
        return text.append(character).length();
    }

    int run() {
        String typed = text.toString();
        text.setLength(0);
        if (!isText(typed)) {
            error = errorIn(typed);
            throw new IllegalArgumentException();
        }
        State before = now.copy();
        List<State> undoableBefore = new ArrayList<>(undoable);
        String[] commands = typed.split(";");
        for (int index = 0; index < commands.length; index++) {
            if (!carriesOut(commands[index])) {
                now = before;
                undoable.clear();
                undoable.addAll(undoableBefore);
                failed = index;
                throw new IllegalStateException();
            }
        }
        undoable.clear();
        undoable.addAll(undoableBefore);
        undoable.addLast(before);
        if (undoable.size() > 8) {
            undoable.removeFirst();
        }
        return commands.length;
    }

    static boolean isText(String typed) {
        return TEXT.matcher(typed).matches();
    }

    /** A beginning can go on if the pattern matches it or wanted more of it. */
    private static int errorIn(String typed) {
        for (int end = 1; end <= typed.length(); end++) {
            Matcher matcher = TEXT.matcher(typed.substring(0, end));
            if (!matcher.matches() && !matcher.hitEnd()) {
                return end - 1;
            }
        }
        return typed.length();
    }

    private boolean carriesOut(String command) {
        int[] n = Pattern.compile("\\d+|[a-h]$").matcher(command).results()
                .mapToInt(r -> Character.isDigit(r.group().charAt(0))
                        ? Integer.parseInt(r.group()) : r.group().charAt(0) - 'a').toArray();
        try {
            switch (command.substring(0, command.indexOf(' '))) {
                case "add" -> append(n[0], n[1], n[2]);
                case "put" -> insert(n[0], n[1], n[2], n[3]);
                case "drop" -> remove(n[0], n[1]);
                case "tie" -> retie(n[0], n[1], n[2]);
                case "cut" -> cut(n[0], n[1], n[2]);
                case "join" -> splice(n[0], n[1]);
                case "swap" -> exchange(n[0] / 10, n[0] % 10);
                case "flip" -> flip(n[0], n[1], n[2]);
                default -> dye(n[0], n[1], n[2], n[3]);
            }
            return true;
        } catch (IndexOutOfBoundsException | IllegalArgumentException | IllegalStateException e) {
            return false;
        }
    }

    int errorPosition() {
        element(error != null);
        return error;
    }

    int failedCommand() {
        element(failed != null);
        return failed;
    }

    int describeReel(int reel) {
        StringBuilder written = new StringBuilder();
        for (int position = 0; position < reel(reel).size(); position++) {
            if (position > 0) {
                written.append(colour(reel, position) == colour(reel, position - 1) ? "=" : "-");
            }
            written.append(length(reel, position)).append("abcdefgh".charAt(colour(reel, position)));
        }
        line = written.toString();
        return line.length();
    }

    int lineLength() {
        return line.length();
    }

    char lineAt(int index) {
        index(index >= 0 && index < line.length());
        return line.charAt(index);
    }

    double meanLength(int reel) {
        if (reel(reel).isEmpty()) {
            throw new ArithmeticException();
        }
        return (double) reelLength(reel) / reel(reel).size();
    }

    float colourShare(int reel, int colour) {
        int part = colourLength(reel, colour);
        if (reel(reel).isEmpty()) {
            throw new ArithmeticException();
        }
        return (float) part / reelLength(reel);
    }

    int undo() {
        state(!undoable.isEmpty());
        now = undoable.removeLast();
        return undoable.size();
    }

    int save() {
        snapshot = now.copy();
        return now.reels.stream().mapToInt(List::size).sum();
    }

    int restore() {
        state(snapshot != null);
        now = snapshot.copy();
        undoable.clear();
        return now.reels.stream().mapToInt(List::size).sum();
    }
}
