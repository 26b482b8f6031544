import java.util.List;

/** Writes as one text what can be seen of an object. */
final class Look {

    interface Maker {
        RibbonQuarry make();
    }

    interface Use {
        Object of(RibbonQuarry x);
    }

    /** What shows all that an object holds; each of them may use its object up. */
    private static final List<Use> LOOKS = List.of(Look::at, Look::undone, Look::allUndone, Look::restored, Look::run);

    private Look() {
    }

    /** By calls that change nothing. */
    static String at(RibbonQuarry x) {
        StringBuilder seen = new StringBuilder();
        for (int reel = 0; reel < 4; reel++) {
            seen.append(reel(x, reel)).append(' ');
        }
        seen.append("cuts ").append(x.cutCount()).append(" splices ").append(x.spliceCount());
        seen.append(" error ").append(Checks.outcome(x::errorPosition));
        seen.append(" failed ").append(Checks.outcome(x::failedCommand));
        seen.append(" line ").append(line(x)).append(" consistent ").append(x.isConsistent());
        return seen.toString();
    }

    static String reel(RibbonQuarry x, int reel) {
        StringBuilder seen = new StringBuilder();
        int count = x.segmentCount(reel);
        for (int position = 0; position < count; position++) {
            seen.append(x.length(reel, position)).append((char) ('a' + x.colour(reel, position)));
        }
        return seen.toString();
    }

    /** Reads the line up to the first index that is not there. */
    static String line(RibbonQuarry x) {
        StringBuilder seen = new StringBuilder();
        for (int index = 0; index <= 240; index++) {
            int place = index;
            String sign = Checks.outcome(() -> x.lineAt(place));
            if (sign.length() != 1) {
                return seen.append(sign.equals("IndexOutOfBoundsException") ? "" : sign).toString();
            }
            seen.append(sign);
        }
        return seen.append("...").toString();
    }

    /**
     * What can be seen after a call, also what only later calls show: the
     * changes to undo, the snapshot and the command text. Each look is at an
     * object made for it, so that none gets more calls than the document counts.
     */
    static String after(Maker maker, Use call) {
        StringBuilder seen = new StringBuilder();
        for (Use look : LOOKS) {
            RibbonQuarry x = maker.make();
            Checks.outcome(() -> call.of(x));
            seen.append(look.of(x)).append('\n');
        }
        return seen.toString();
    }

    private static String undone(RibbonQuarry x) {
        return "undo " + Checks.outcome(x::undo) + " " + at(x);
    }

    private static String allUndone(RibbonQuarry x) {
        StringBuilder seen = new StringBuilder("undo");
        for (int undos = 0; undos < 9; undos++) {
            seen.append(' ').append(Checks.outcome(x::undo));
        }
        return seen.append(' ').append(at(x)).toString();
    }

    private static String restored(RibbonQuarry x) {
        return "restore " + Checks.outcome(x::restore) + " undo " + Checks.outcome(x::undo) + " " + at(x);
    }

    /** Types what a text that ends in a number still takes. */
    private static String run(RibbonQuarry x) {
        return "type " + Checks.outcome(() -> x.type('0')) + " run " + Checks.outcome(x::run) + " " + at(x);
    }
}
