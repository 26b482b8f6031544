/** Writes as one text what can be seen of an object by calls that change nothing. */
final class Look {

    private Look() {
    }

    static String at(RibbonQuarry quarry) {
        StringBuilder seen = new StringBuilder();
        for (int reel = 0; reel < 4; reel++) {
            seen.append(reel(quarry, reel)).append(' ');
        }
        seen.append("cuts ").append(quarry.cutCount()).append(" splices ").append(quarry.spliceCount());
        seen.append(" error ").append(Checks.outcome(quarry::errorPosition));
        seen.append(" failed ").append(Checks.outcome(quarry::failedCommand));
        seen.append(" line ").append(line(quarry)).append(" consistent ").append(quarry.isConsistent());
        return seen.toString();
    }

    static String reel(RibbonQuarry quarry, int reel) {
        StringBuilder seen = new StringBuilder("[");
        for (int position = 0; position < quarry.segmentCount(reel); position++) {
            seen.append(quarry.length(reel, position)).append((char) ('a' + quarry.colour(reel, position)));
        }
        return seen.append(']').toString();
    }

    /** Reads the line up to the first index that is not there. */
    static String line(RibbonQuarry quarry) {
        StringBuilder seen = new StringBuilder();
        for (int index = 0; index <= 240; index++) {
            int place = index;
            String sign = Checks.outcome(() -> quarry.lineAt(place));
            if (sign.length() != 1) {
                return seen.append(sign.equals("IndexOutOfBoundsException") ? "" : sign).toString();
            }
            seen.append(sign);
        }
        return seen.append("...").toString();
    }
}
