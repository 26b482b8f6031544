/** Promises 34 to 37: the command text, run and what it sets. */
public final class CommandsTest extends Promises {

    public static void main(String[] args) {
        type();
        runOfEachCommand();
        runAllOrNone();
        runOfWrongCommands();
        errorPosition();
        failedCommand();
        Checks.end();
    }

    // ---- 34 to 37: commands

    private static void type() {
        Checks.begin("promise 34");
        RibbonQuarry x = new RibbonQuarry();
        due(1, x.type(' '));
        due(2, x.type('~'));
        for (char sign : new char[] {0, 31, 127, 128, 233, 0xffff}) {
            argument(x, () -> x.type(sign));
        }
        for (int length = 3; length <= 60; length++) {
            due(length, x.type('a'));
        }
        state(x, () -> x.type('a'));
        argument(x, () -> x.type((char) 31));
        argument(x, () -> x.type((char) 127));
        runThrows(Checks.ARGUMENT, x, "");
        due(1, x.type('a'));
        RibbonQuarry y = new RibbonQuarry();
        typeAll(y, "add 0 1a");
        argument(y, () -> y.type('\n'));
        due(1, y.run());
    }

    private static void runOfEachCommand() {
        Checks.begin("promise 35");
        RibbonQuarry x = new RibbonQuarry();
        due(1, runAll(x, "add 0 99a"));
        due(2, runAll(x, "add 0 5h;add 0 07c"));
        dueReels(x, "99a5h7c", "", "", "");
        due(2, runAll(x, "put 0@3 12b;put 0@00 1d"));
        dueReels(x, "1d99a5h7c12b", "", "", "");
        due(1, runAll(x, "drop 0@2"));
        due(1, runAll(x, "tie 0@3=45"));
        dueReels(x, "1d99a7c45b", "", "", "");
        due(1, runAll(x, "cut 0@01>3"));
        dueReels(x, "1d", "", "", "99a7c45b");
        due(1, runAll(x, "flip 3@0-2"));
        dueReels(x, "1d", "", "", "45b7c99a");
        due(1, runAll(x, "join 0<3"));
        dueReels(x, "1d45b7c99a", "", "", "");
        due(1, runAll(x, "swap 02"));
        dueReels(x, "", "", "1d45b7c99a", "");
        due(1, runAll(x, "dye 2@1-02 g"));
        dueReels(x, "", "", "1d45g7g99a", "");
        due(7, runAll(x, "swap 01;swap 02;swap 03;swap 10;swap 20;swap 30;swap 11"));
        due(1, x.cutCount());
        due(1, x.spliceCount());
        due(1, x.type('a'));
        RibbonQuarry long60 = new RibbonQuarry();
        due(6, runAll(long60, "add 0 1a;put 0@0 1b;put 0@1 1c;put 0@1 1d;add 0 5e;add 0 61f"));
        dueReels(long60, "1b1d1c1a5e61f");
        due(true, long60.isConsistent());
    }

    private static void runAllOrNone() {
        Checks.begin("promise 35");
        RibbonQuarry x = with("1a2b");
        x.save();
        runThrows(Checks.STATE, x, "drop 0@0;cut 0@0>1;drop 0@0;add 0 1a");
        dueReels(x, "1a2b", "", "", "");
        due(0, x.cutCount());
        due(2, x.failedCommand());
        element(x, x::errorPosition);
        runThrows(Checks.ARGUMENT, x, "");
        due(0, x.errorPosition());
        due(2, x.failedCommand());
        runThrows(Checks.ARGUMENT, x, "drop 0@0;drop 0@0;");
        due(18, x.errorPosition());
        due(2, x.failedCommand());
        dueReels(x, "1a2b", "", "", "");
        due(1, runAll(x, "drop 0@0"));
        due(18, x.errorPosition());
        due(2, x.failedCommand());
        due(true, x.isConsistent());
    }

    /** Each of these texts is well formed, and its only command fails on a reel of two segments. */
    private static void runOfWrongCommands() {
        Checks.begin("promise 35");
        String[] texts = {"add 4 1a", "add 0 0a", "add 3 1a", "put 9@0 1a", "put 0@3 1a", "put 0@0 00b", "put 3@0 1a",
            "drop 0@2", "drop 4@0", "drop 1@0", "tie 0@2=5", "tie 0@0=0", "tie 0@0=00", "tie 9@0=1", "cut 0@3>1",
            "cut 0@0>0", "cut 0@0>3", "cut 0@0>4", "cut 4@0>0", "join 0<0", "join 0<3", "join 0<4", "join 4<0",
            "swap 04", "swap 40", "flip 0@0-2", "flip 0@1-0", "flip 1@0-0", "flip 4@0-0", "dye 0@0-2 a",
            "dye 0@1-0 a", "dye 4@0-0 a", "dye 1@0-0 a"};
        for (String text : texts) {
            Checks.begin("promise 35, text " + text);
            RibbonQuarry x = with("1a2b", "", "", "1a".repeat(60));
            String before = Look.reel(x, 0) + Look.reel(x, 3);
            runThrows(Checks.STATE, x, text);
            due(before, Look.reel(x, 0) + Look.reel(x, 3));
            due(0, x.failedCommand());
            element(x, x::errorPosition);
            due(1, x.type('a'));
        }
    }

    private static void errorPosition() {
        Checks.begin("promise 36");
        RibbonQuarry fresh = new RibbonQuarry();
        element(fresh, fresh::errorPosition);
        dueError(0, "", "x", "A", " add 0 1a", ";", "1", "i", "q");
        dueError(1, "a", "d", "p", "t", "c", "j", "s", "f", "dx", "ax", "d;", "px", "da", "p d", "sa", "fi", "ja");
        dueError(2, "dr", "dy", "dre", "dyo", "ado", "pur", "tip", "cup", "jon", "swo", "flo");
        dueError(3, "add", "put", "dye", "tie", "cut", "addx", "dyee", "dro", "drox", "swax", "flix", "joix");
        dueError(4, "add ", "add  ", "add a", "drop", "drop_", "flip@", "join-", "swap1", "put -", "cut @", "dye  1");
        dueError(5, "add 0", "add 00", "add 0@", "put 0 1", "drop x", "join <", "tie 0=", "cut 0>", "dye 0 a", "swap ");
        dueError(6, "add 0 ", "add 0 a", "put 0@", "put 0@a", "swap 0", "swap 0a", "tie 0@=", "drop 0 ", "join 0@");
        dueError(7, "add 0 1", "add 0 1;", "add 0 1i", "add 0 1`", "add 0 1A", "put 0@1x", "put 0@1a", "swap 000");
        dueError(7, "tie 0@1-", "cut 0@1-", "join 0<", "drop 0@", "drop 0@x", "flip 0@", "flip 0@x");
        dueError(8, "add 0 1aa", "add 0 1a ", "add 0 123", "add 0 12i", "put 0@123", "tie 0@12-", "cut 0@1>");
        dueError(8, "drop 0@1x", "drop 0@1 ", "flip 0@0", "flip 0@0;", "join 0<12", "swap 01;", "swap 01;;");
        dueError(9, "add 0 1a;", "add 0 12a1", "add 0 1a;;", "drop 0@123", "flip 0@0-", "flip 0@0-x");
        dueError(9, "dye 0@0-1", "dye 0@0-1;", "dye 0@0-1a", "tie 0@1=1x", "cut 0@1>12", "swap 01;dx");
        dueError(10, "dye 0@0-1 ", "dye 0@0-1 i", "dye 0@0-1 1", "tie 0@1=123", "put 0@1 12", "put 0@1 123");
        dueError(10, "dye 0@0-123", "swap 00;dr", "swap 00;dyo", "swap 00;drx", "flip 0@0-1x");
        dueError(10, "dye 0@0-12", "dye 0@0-12a");
        dueError(11, "dye 0@0-1 aa", "flip 0@0-123", "dye 0@0-12 1", "dye 0@0-12 ");
        dueError(60, "add 0 1a;".repeat(6) + "add 0 ", "add 0 1a;".repeat(6) + "swap 0", "swap 01;".repeat(7) + "swap");
        dueError(59, "add 0 1a;".repeat(6) + "add 0x", "swap 01;".repeat(7) + "swaP", "swap 01;".repeat(7) + "add");
    }

    private static void dueError(int position, String... texts) {
        for (String text : texts) {
            RibbonQuarry x = new RibbonQuarry();
            Checks.begin("promise 36, text " + text);
            runThrows(Checks.ARGUMENT, x, text);
            due(position, x.errorPosition());
            element(x, x::failedCommand);
            // The latest error counts, and an errorless run leaves it.
            runThrows(Checks.ARGUMENT, x, "add 0 99x");
            due(8, x.errorPosition());
            runAll(x, "add 0 99h");
            due(8, x.errorPosition());
        }
    }

    private static void failedCommand() {
        Checks.begin("promise 37");
        RibbonQuarry x = with("1a");
        element(x, x::failedCommand);
        runThrows(Checks.STATE, x, "swap 01;drop 1@0;drop 1@0;drop 4@0");
        due(2, x.failedCommand());
        runAll(x, "swap 01");
        due(2, x.failedCommand());
        runThrows(Checks.STATE, x, "swap 01;swap 01;swap 01;swap 01;swap 01;swap 01;swap 09");
        due(6, x.failedCommand());
        runThrows(Checks.STATE, x, "drop 0@0");
        due(0, x.failedCommand());
        element(x, x::errorPosition);
        x.undo();
        due(0, x.failedCommand());
    }
}
