import java.util.Random;

/** Runs of calls on the class and on the plain model, with the same answers due; the seeds are fixed. */
public final class ModelTest {

    private static final int RUNS = 6000;
    // What an object answers later than this is free.
    private static final int CALLS = 512;

    private final Random dice;
    private final RibbonQuarry quarry = new RibbonQuarry();
    private final PlainModel model = new PlainModel();
    // How many of ten calls put segments in: some runs fill the reels, others keep them short.
    private final int growth;
    private final boolean careless;
    private int calls = 0;

    private ModelTest(int seed) {
        dice = new Random(seed);
        growth = seed % 9;
        careless = seed % 4 == 0;
    }

    public static void main(String[] args) {
        for (int seed = 1; seed <= RUNS; seed++) {
            Checks.begin("seed " + seed);
            new ModelTest(seed).compare();
        }
        Checks.end();
    }

    private void compare() {
        int last = 100 + dice.nextInt(400);
        while (calls < last) {
            if (dice.nextInt(10) < growth) {
                grow();
            } else {
                step();
            }
        }
        if (dice.nextBoolean()) {
            both(quarry::undo, model::undo);
            both(quarry::undo, model::undo);
        }
        while (calls < CALLS) {
            lookClosely(dice.nextInt(4));
        }
    }

    private void lookClosely(int reel) {
        switch (dice.nextInt(4)) {
            case 0 -> describe(reel);
            case 1 -> compareRanks(reel);
            case 2 -> compareOffsets(reel);
            default -> both(quarry::undo, model::undo);
        }
    }

    private void both(Checks.Call call, Checks.Call modelCall) {
        if (calls < CALLS) {
            calls++;
            Checks.due(Checks.outcome(modelCall), Checks.outcome(call));
        }
    }

    private void describe(int reel) {
        both(() -> quarry.describeReel(reel), () -> model.describeReel(reel));
        for (int index = -1; index <= model.lineLength(); index++) {
            int place = index;
            both(() -> quarry.lineAt(place), () -> model.lineAt(place));
        }
    }

    private void compareRanks(int reel) {
        for (int index = -1; index <= model.segmentCount(reel) + 1; index++) {
            int n = index;
            both(() -> quarry.segmentAtRank(reel, n), () -> model.segmentAtRank(reel, n));
            both(() -> quarry.lengthBefore(reel, n), () -> model.lengthBefore(reel, n));
            both(() -> quarry.lengthBeforeByScan(reel, n), () -> model.lengthBefore(reel, n));
            both(() -> quarry.isTangled(reel, n), () -> model.isTangled(reel, n));
            both(() -> quarry.colourAtRank(reel, n), () -> model.colourAtRank(reel, n));
        }
    }

    private void compareOffsets(int reel) {
        int step = 1 + model.reelLength(reel) / 50;
        for (int offset = -1; offset <= model.reelLength(reel); offset += step) {
            int o = offset;
            both(() -> quarry.positionAt(reel, o), () -> model.positionAt(reel, o));
        }
    }

    // ---- parameters, mostly good ones

    private boolean rarely() {
        return dice.nextInt(careless ? 6 : 40) == 0;
    }

    private int odd() {
        int[] odd = {-1, Integer.MIN_VALUE, Integer.MAX_VALUE, 4, 8, 60, 61, 100, 0, 536870912};
        return odd[dice.nextInt(odd.length)];
    }

    private int aReel() {
        return rarely() ? odd() : dice.nextInt(4);
    }

    private int aPosition(int reel, int beyond) {
        int count = reel >= 0 && reel < 4 ? model.segmentCount(reel) : 3;
        return rarely() || count + beyond == 0 ? odd() : dice.nextInt(count + beyond);
    }

    private int aLength() {
        return rarely() ? odd() : 1 + dice.nextInt(dice.nextBoolean() ? 4 : 99);
    }

    private int aColour() {
        return rarely() ? odd() : dice.nextInt(dice.nextBoolean() ? 2 : 8);
    }

    // ---- calls

    private void grow() {
        int reel = aReel();
        int length = aLength();
        int colour = aColour();
        if (dice.nextBoolean()) {
            both(() -> quarry.append(reel, length, colour), () -> model.append(reel, length, colour));
        } else {
            int position = aPosition(reel, 1);
            both(() -> quarry.insert(reel, position, length, colour),
                    () -> model.insert(reel, position, length, colour));
        }
    }

    private void step() {
        int kind = dice.nextInt(10);
        if (kind < 4) {
            change();
        } else if (kind < 5) {
            goBack();
        } else if (kind < 6) {
            typeAndRun();
        } else {
            ask();
        }
    }

    private void change() {
        int reel = aReel();
        int other = aReel();
        int p = aPosition(reel, 0);
        int border = aPosition(reel, 1);
        int q = aPosition(reel, 0);
        int first = dice.nextInt(8) == 0 ? p : Math.min(p, q);
        int last = dice.nextInt(8) == 0 ? q : Math.max(p, q);
        int length = aLength();
        int colour = aColour();
        switch (dice.nextInt(7)) {
            case 0 -> both(() -> quarry.remove(reel, p), () -> model.remove(reel, p));
            case 1 -> both(() -> quarry.retie(reel, p, length), () -> model.retie(reel, p, length));
            case 2 -> both(() -> quarry.cut(reel, border, other), () -> model.cut(reel, border, other));
            case 3 -> both(() -> quarry.splice(reel, other), () -> model.splice(reel, other));
            case 4 -> both(() -> quarry.exchange(reel, other), () -> model.exchange(reel, other));
            case 5 -> both(() -> quarry.flip(reel, first, last), () -> model.flip(reel, first, last));
            default -> both(() -> quarry.dye(reel, first, last, colour), () -> model.dye(reel, first, last, colour));
        }
    }

    private void goBack() {
        switch (dice.nextInt(8)) {
            case 0 -> both(quarry::save, model::save);
            case 1 -> both(quarry::restore, model::restore);
            default -> both(quarry::undo, model::undo);
        }
    }

    private void ask() {
        int reel = aReel();
        int p = aPosition(reel, 0);
        int q = aPosition(reel, 0);
        switch (dice.nextInt(4)) {
            case 0 -> askOfSegments(reel, p, Math.min(p, q), dice.nextInt(8) == 0 ? q : Math.max(p, q));
            case 1 -> askOfColours(reel, p, aColour());
            case 2 -> askOfReels(reel, aReel());
            default -> askOfTotals();
        }
    }

    private void askOfSegments(int reel, int position, int first, int last) {
        both(() -> quarry.length(reel, position), () -> model.length(reel, position));
        both(() -> quarry.colour(reel, position), () -> model.colour(reel, position));
        both(() -> quarry.rangeLength(reel, first, last), () -> model.rangeLength(reel, first, last));
        both(() -> quarry.longestInRange(reel, first, last), () -> model.longestInRange(reel, first, last));
    }

    private void askOfColours(int reel, int position, int colour) {
        both(() -> quarry.nextOfColour(reel, position, colour), () -> model.nextOfColour(reel, position, colour));
        both(() -> quarry.colourLength(reel, colour), () -> model.colourLength(reel, colour));
        both(() -> quarry.colourShare(reel, colour), () -> model.colourShare(reel, colour));
        both(() -> quarry.colourAtRank(reel, position), () -> model.colourAtRank(reel, position));
    }

    private void askOfReels(int reel, int other) {
        both(() -> quarry.segmentCount(reel), () -> model.segmentCount(reel));
        both(() -> quarry.reelLength(reel), () -> model.reelLength(reel));
        both(() -> quarry.tangleCount(reel), () -> model.tangleCount(reel));
        both(() -> quarry.tangleCountByScan(reel), () -> model.tangleCount(reel));
        both(() -> quarry.longestRun(reel), () -> model.longestRun(reel));
        both(() -> quarry.meanLength(reel), () -> model.meanLength(reel));
        both(() -> quarry.isSymmetric(reel), () -> model.isSymmetric(reel));
        both(() -> quarry.commonBeginning(reel, other), () -> model.commonBeginning(reel, other));
        both(() -> quarry.areEqual(reel, other), () -> model.areEqual(reel, other));
    }

    private void askOfTotals() {
        both(quarry::totalLength, model::totalLength);
        both(quarry::cutCount, model::cutCount);
        both(quarry::spliceCount, model::spliceCount);
        both(quarry::errorPosition, model::errorPosition);
        both(quarry::failedCommand, model::failedCommand);
        both(quarry::isConsistent, () -> true);
    }

    // ---- command texts

    private void typeAndRun() {
        StringBuilder text = new StringBuilder();
        int commands = 1 + dice.nextInt(dice.nextBoolean() ? 2 : 8);
        for (int index = 0; index < commands; index++) {
            text.append(index == 0 ? "" : ";").append(aCommand());
        }
        if (dice.nextInt(4) == 0) {
            text.setLength(dice.nextInt(text.length() + 1));
        }
        if (dice.nextInt(4) == 0 && text.length() > 0) {
            String signs = "0123456789abcdefghijoprtuwy ;@=><-~";
            text.setCharAt(dice.nextInt(text.length()), signs.charAt(dice.nextInt(signs.length())));
        }
        for (char sign : text.toString().toCharArray()) {
            both(() -> quarry.type(sign), () -> model.type(sign));
        }
        if (dice.nextInt(10) > 0) {
            both(quarry::run, model::run);
        }
    }

    private String aCommand() {
        int reel = dice.nextInt(rarely() ? 10 : 4);
        int other = dice.nextInt(rarely() ? 10 : 4);
        int p = Math.floorMod(aPosition(reel, 0), 100);
        int q = Math.floorMod(aPosition(reel, 0), 100);
        String place = reel + "@" + (p < 10 && dice.nextInt(4) == 0 ? "0" : "") + p;
        String range = reel + "@" + Math.min(p, q) + "-" + (rarely() ? Math.min(p, q) : Math.max(p, q));
        String length = String.valueOf(rarely() ? 0 : 1 + dice.nextInt(99));
        char colour = (char) ('a' + dice.nextInt(8));
        return switch (dice.nextInt(9)) {
            case 0 -> "add " + reel + " " + length + colour;
            case 1 -> "put " + place + " " + length + colour;
            case 2 -> "drop " + place;
            case 3 -> "tie " + place + "=" + length;
            case 4 -> "cut " + place + ">" + other;
            case 5 -> "join " + reel + "<" + other;
            case 6 -> "swap " + reel + other;
            case 7 -> "flip " + range;
            default -> "dye " + range + " " + colour;
        };
    }
}
