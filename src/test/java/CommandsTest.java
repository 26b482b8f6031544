import java.io.IOException;

/** Promises 34 to 37: the command text, run and what it sets. */
public final class CommandsTest extends Promises {

    /** Each of these texts is well formed and fails on the reels of AGAINST, each for another reason. */
    private static final String[] FAILING = {"add 4 1a", "add 9 1a", "add 0 0a", "add 0 00h", "add 3 1a", "put 4@0 1a",
        "put 0@3 1a", "put 0@99 1a", "put 0@0 00b", "put 3@0 1a", "put 3@60 1a", "drop 0@2", "drop 0@99", "drop 4@0",
        "drop 1@0", "drop 3@60", "tie 0@2=5", "tie 0@0=0", "tie 0@0=00", "tie 4@0=1", "tie 1@0=1", "cut 0@3>1",
        "cut 0@0>0", "cut 0@0>3", "cut 0@0>4", "cut 4@0>1", "cut 1@1>2", "join 0<0", "join 0<3", "join 3<0",
        "join 0<4", "join 4<0", "swap 04", "swap 40", "swap 99", "flip 0@0-2", "flip 0@2-2", "flip 0@1-0",
        "flip 1@0-0", "flip 4@0-0", "dye 0@0-2 a", "dye 0@2-2 a", "dye 0@1-0 a", "dye 4@0-0 a", "dye 1@0-0 a"};
    private static final String[] AGAINST = {"1a2b", "", "", FULL};

    public static void main(String[] args) throws IOException {
        begin(args);
        type();
        run();
        errorPosition();
        failedCommand();
        endPromises(34, 37);
    }

    private static void type() {
        promise(34);
        says("Appends a character to the command text.");
        RibbonQuarry x = new RibbonQuarry();
        typeAll(x, "add 0 1a");
        x.describeReel(0);
        typeAll(x, ";add 0 2b");
        due(2, x.run());
        dueReels(x, "1a2b");

        says("character: the character");
        for (char sign = 32; sign <= 126; sign++) {
            RibbonQuarry y = new RibbonQuarry();
            due(1, y.type(sign));
            due("IllegalArgumentException", Checks.outcome(y::run));
            due("adpctsjf".indexOf(sign) >= 0 ? 1 : 0, y.errorPosition());
        }

        says("Returns the length of the command text after the call.");
        RibbonQuarry growing = new RibbonQuarry();
        for (int length = 1; length <= 60; length++) {
            due(length, growing.type((char) (31 + length)));
        }
        Checks.outcome(growing::run);
        due(1, growing.type(' '));
        due(2, growing.type(' '));

        says("Throws IllegalArgumentException if the code of the character is not from 32 to 126");
        for (char code : new char[] {0, 9, 10, 13, 31, 127, 128, 160, 255, 256 + 'a', 0x8061, 0xffff}) {
            argument(() -> lived(FOUR), y -> y.type(code));
        }
        for (int code = 0; code <= 0xffff; code++) {
            char sign = (char) code;
            RibbonQuarry y = new RibbonQuarry();
            due(code >= 32 && code <= 126 ? "1" : "IllegalArgumentException", Checks.outcome(() -> y.type(sign)));
        }

        says("Throws IllegalStateException if the command text has 60 characters");
        Look.Maker sixty = () -> withText("swap 00;".repeat(6) + "put 0@1 99h;");
        state(sixty, y -> y.type(';'));
        state(sixty, y -> y.type('a'));
        Look.Maker fifty9 = () -> withText("swap 00;".repeat(6) + "put 0@1 99");
        RibbonQuarry full = fifty9.make();
        due(59, full.type('h'));
        due(60, full.type(';'));
        due("IllegalStateException", Checks.outcome(() -> full.type(';')));
        due("IllegalArgumentException", Checks.outcome(full::run));
        due(60, full.errorPosition());
        due(1, full.type('a'));
    }

    private static RibbonQuarry withText(String text) {
        RibbonQuarry x = past(FOUR);
        typeAll(x, text);
        return x;
    }

    private static void run() {
        promise(35);
        runInOrder();
        runAllOrNone();
        runLeavesNoText();
        runFailsAtTheFirst();
        runCounts();
        runOfNoText();
        runOfWrongCommands();
    }

    private static void runInOrder() {
        says("Parses the command text and carries out its commands in order.");
        RibbonQuarry x = new RibbonQuarry();
        runAll(x, "add 0 99a");
        runAll(x, "add 0 5h;add 0 07c");
        dueReels(x, "99a5h7c");
        runAll(x, "put 0@3 12b;put 0@00 1d");
        dueReels(x, "1d99a5h7c12b");
        runAll(x, "drop 0@2");
        runAll(x, "tie 0@2=45");
        dueReels(x, "1d99a45c12b");
        runAll(x, "cut 0@01>3");
        dueReels(x, "1d", "", "", "99a45c12b");
        runAll(x, "flip 3@0-2");
        dueReels(x, "1d", "", "", "12b45c99a");
        runAll(x, "join 0<3");
        dueReels(x, "1d12b45c99a");
        runAll(x, "swap 02");
        dueReels(x, "", "", "1d12b45c99a");
        runAll(x, "dye 2@1-02 g");
        dueReels(x, "", "", "1d12g45g99a");
        runAll(x, "cut 2@1>0;cut 0@1>1;drop 0@0;join 1<2;tie 1@2=1");
        dueReels(x, "", "45g99a1d");
        due(true, x.isConsistent());
    }

    /** The command that fails comes last, behind commands that change lengths, colours, counts and borders of parts. */
    private static void runAllOrNone() {
        says("Either all commands are carried out, or none.");
        String[] starts = {"add 0 1a", "put 0@0 1a;drop 0@1", "tie 0@0=99;dye 0@0-58 h", "cut 0@0>1;join 1<2;swap 13",
            "flip 0@0-58;drop 0@0;cut 0@9>3;swap 03", "swap 01;swap 12;swap 20;swap 31;swap 02"};
        for (String start : starts) {
            RibbonQuarry all = past(stairs(1, 59), "", "2c");
            String before = Look.at(all);
            due(start.split(";").length, runAll(all, start));
            due(false, before.equals(Look.at(all)));
        }
        for (String start : starts) {
            Look.Maker maker = () -> past(stairs(1, 59), "", "2c");
            String none = Look.after(maker, y -> runsAndForgets(y, "drop 3@0"));
            due(none, Look.after(maker, y -> runsAndForgets(y, start + ";drop 9@0")));
            due(none, Look.after(maker, y -> runsAndForgets(y, start + ";add 0 0a")));
        }
    }

    /** Runs a text that fails, then one that always fails at its first command, and leaves a command begun. */
    private static Object runsAndForgets(RibbonQuarry x, String text) {
        runThrows(Checks.STATE, x, text);
        runThrows(Checks.STATE, x, "drop 9@0");
        typeAll(x, "drop 0@");
        return null;
    }

    private static void runLeavesNoText() {
        says("The command text is empty after the call, also if an exception is thrown.");
        RibbonQuarry x = with("1a");
        due(1, runAll(x, "add 0 2b"));
        due(1, x.type('a'));
        typeAll(x, "dd 0 3c");
        due(1, x.run());
        dueReels(x, "1a2b3c");
        runThrows(Checks.ARGUMENT, x, "add 0 4d;");
        due(1, x.type('a'));
        typeAll(x, "dd 0 5e");
        due(1, x.run());
        dueReels(x, "1a2b3c5e");
        runThrows(Checks.STATE, x, "add 0 6f;drop 1@0");
        due(1, x.type('a'));
        typeAll(x, "dd 0 7g");
        due(1, x.run());
        dueReels(x, "1a2b3c5e7g");
        // Once empty, the text is no command text.
        due("IllegalArgumentException", Checks.outcome(x::run));
        due(0, x.errorPosition());
        typeAll(x, "~".repeat(60));
        due("IllegalArgumentException", Checks.outcome(x::run));
        due(1, x.type('~'));
    }

    private static void runFailsAtTheFirst() {
        says("The first command whose method would throw an exception is the failed command.");
        for (int good = 0; good <= 5; good++) {
            RibbonQuarry x = with(AGAINST);
            runThrows(Checks.STATE, x, "swap 01;".repeat(good) + "swap 09;drop 9@0");
            due(good, x.failedCommand());
        }
        for (String text : FAILING) {
            RibbonQuarry x = with(AGAINST);
            runThrows(Checks.STATE, x, "swap 22;swap 12;" + text + ";drop 9@9;" + text);
            due(2, x.failedCommand());
        }
        // What comes before decides whether a command fails.
        RibbonQuarry x = with("1a2b");
        runThrows(Checks.STATE, x, "drop 0@1;drop 0@1;drop 0@0");
        due(1, x.failedCommand());
        runThrows(Checks.STATE, x, "drop 0@0;drop 0@0;drop 0@0");
        due(2, x.failedCommand());
        runThrows(Checks.STATE, x, "cut 0@0>1;cut 1@0>0;cut 0@0>1;cut 0@0>1");
        due(3, x.failedCommand());
        due(2, runAll(x, "cut 0@0>1;put 1@2 3c"));
        RibbonQuarry full = with("1a".repeat(58));
        runThrows(Checks.STATE, full, "add 0 1a;add 0 1a;add 0 1a");
        due(2, full.failedCommand());
        runThrows(Checks.STATE, full, "add 1 1a;add 1 1a;add 1 1a;join 0<1");
        due(3, full.failedCommand());
        due(3, runAll(full, "add 1 1a;add 1 1a;join 0<1"));
    }

    private static void runCounts() {
        says("Returns the number of commands.");
        for (int count = 1; count <= 7; count++) {
            RibbonQuarry x = with("1a", "2b");
            due(count, runAll(x, "swap 01" + ";swap 01".repeat(count - 1)));
            dueReels(x, count % 2 == 0 ? "1a" : "2b", count % 2 == 0 ? "2b" : "1a");
        }
        due(6, runAll(new RibbonQuarry(), "add 0 1a;put 0@0 1b;put 0@1 1c;put 0@1 1d;add 0 5e;add 0 61f"));
        RibbonQuarry sixty = new RibbonQuarry();
        due(7, runAll(sixty, "swap 01;add 0 1a;swap 01;swap 01;swap 01;swap 01;add 0 11b"));
        due(5, runAll(sixty, "add 0 1a;put 0@1 12b;put 0@01 12c;put 0@0 12d;put 0@0 12e"));
    }

    private static void runOfNoText() {
        says("Throws IllegalArgumentException if the text is not a command text; the error position is set and the"
                + " failed command is left as it is");
        RibbonQuarry x = with("1a2b");
        runThrows(Checks.ARGUMENT, x, "");
        due(0, x.errorPosition());
        due("NoSuchElementException", Checks.outcome(x::failedCommand));
        runThrows(Checks.STATE, x, "swap 01;drop 9@0");
        due(1, x.failedCommand());
        String[] texts = {"", "x", "add 0 1", "add 0 1a;", "add 0 1a;x", "drop 9@0;", "drop 9@0;x", "add 0 1a add 0 1a"};
        int[] positions = {0, 0, 7, 9, 9, 9, 9, 8};
        for (int index = 0; index < texts.length; index++) {
            runThrows(Checks.ARGUMENT, x, texts[index]);
            due(positions[index], x.errorPosition());
            due(1, x.failedCommand());
            dueReels(x, "1a2b");
        }
        due(1, x.undo());
        Look.Maker maker = () -> past(FOUR);
        String untouched = Look.after(maker, y -> runsNoText(y, "add 9x"));
        due(untouched, Look.after(maker, y -> runsNoText(y, "dye 0@0-0 h;cut 3@0>0;dye 9")));
        due(untouched, Look.after(maker, y -> runsNoText(y, "cut 0@0>1;drop 0@0;")));
    }

    /** Runs a text that is no command text, then a known one, and leaves a command begun. */
    private static Object runsNoText(RibbonQuarry x, String text) {
        runThrows(Checks.ARGUMENT, x, text);
        runThrows(Checks.ARGUMENT, x, "add x");
        typeAll(x, "drop 0@");
        return null;
    }

    private static void runOfWrongCommands() {
        says("Throws IllegalStateException if a command fails; the failed command is set and the error position is"
                + " left as it is");
        for (String text : FAILING) {
            RibbonQuarry x = with(AGAINST);
            String before = Look.at(x).replace("failed NoSuchElementException", "failed 0");
            runThrows(Checks.STATE, x, text);
            due(before, Look.at(x));
        }
        RibbonQuarry x = with(AGAINST);
        runThrows(Checks.STATE, x, "drop 9@0");
        due("NoSuchElementException", Checks.outcome(x::errorPosition));
        runThrows(Checks.ARGUMENT, x, "add 0x");
        runThrows(Checks.STATE, x, "swap 00;drop 9@0");
        due(5, x.errorPosition());
        due(1, x.failedCommand());
    }

    private static void errorPosition() {
        promise(36);
        says("Returns the error position that was set last.");
        RibbonQuarry x = with("1a");
        runThrows(Checks.ARGUMENT, x, "add 0 99x");
        due(8, x.errorPosition());
        due(8, x.errorPosition());
        runThrows(Checks.ARGUMENT, x, "adx");
        due(2, x.errorPosition());
        runAll(x, "add 0 99h");
        due(2, x.errorPosition());
        runThrows(Checks.STATE, x, "drop 1@0");
        due(2, x.errorPosition());
        runThrows(Checks.ARGUMENT, x, "");
        due(0, x.errorPosition());
        typeAll(x, "add 0");
        due(0, x.errorPosition());

        says("Returns the error position.");
        for (int length = 0; length <= 60; length++) {
            RibbonQuarry y = new RibbonQuarry();
            String text = "swap 00;swap 01;swap 02;swap 03;swap 04;swap 05;swap 06;swap";
            boolean whole = length % 8 == 7;
            if (!whole) {
                runThrows(Checks.ARGUMENT, y, text.substring(0, length));
                due(length, y.errorPosition());
            }
        }

        says("Throws NoSuchElementException if no error position was set");
        element(RibbonQuarry::new, RibbonQuarry::errorPosition);
        element(() -> with(FOUR), RibbonQuarry::errorPosition);
        RibbonQuarry unset = new RibbonQuarry();
        runAll(unset, "add 0 1a");
        runThrows(Checks.STATE, unset, "drop 1@0");
        due("NoSuchElementException", Checks.outcome(unset::errorPosition));
    }

    private static void failedCommand() {
        promise(37);
        says("Returns the index of the failed command of the latest run in which a command failed.");
        RibbonQuarry x = with("1a");
        runThrows(Checks.STATE, x, "swap 01;drop 1@0;drop 1@0;drop 4@0");
        due(2, x.failedCommand());
        due(2, x.failedCommand());
        runAll(x, "swap 01");
        due(2, x.failedCommand());
        runThrows(Checks.ARGUMENT, x, "drop 1@0;");
        due(2, x.failedCommand());
        runThrows(Checks.STATE, x, "swap 00;drop 9@0");
        due(1, x.failedCommand());
        due("IndexOutOfBoundsException", Checks.outcome(() -> x.remove(0, 0)));
        due(1, x.failedCommand());

        says("Returns the index, from 0.");
        for (int index = 0; index <= 6; index++) {
            RibbonQuarry y = with("1a");
            runThrows(Checks.STATE, y, "swap 00;".repeat(index) + "swap 09" + ";swap 00".repeat(6 - index));
            due(index, y.failedCommand());
        }

        says("Throws NoSuchElementException if no command has failed");
        element(RibbonQuarry::new, RibbonQuarry::failedCommand);
        element(() -> with(FOUR), RibbonQuarry::failedCommand);
        RibbonQuarry unset = new RibbonQuarry();
        runAll(unset, "add 0 1a");
        runThrows(Checks.ARGUMENT, unset, "drop 1@0;");
        due("NoSuchElementException", Checks.outcome(unset::failedCommand));
    }
}
