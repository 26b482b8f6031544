import java.io.IOException;
import java.util.LinkedHashSet;
import java.util.Set;

/** The term "Commands": the form of a command text, what its commands call, and error positions. */
public final class CommandTextTest extends Promises {

    private static final String[] REELS = {"", "2b3b", "4c50d6c", "70g8h9g"};

    /** Commands of each alternative; on REELS each of them can be carried out. */
    private static final String[] TEXTS = {"add 0 1a", "add 3 99h", "put 1@0 5b", "put 2@03 12g", "drop 3@2",
        "drop 1@01", "tie 1@0=7", "tie 3@02=08", "cut 2@1>0", "cut 3@03>0", "join 1<3", "join 0<2", "swap 03", "swap 22",
        "flip 3@0-2", "flip 2@01-02", "dye 1@0-1 h", "dye 3@00-02 a"};

    private static final String[] KEYWORDS = {"add", "put", "drop", "tie", "cut", "join", "swap", "flip", "dye"};

    public static void main(String[] args) throws IOException {
        begin(args);
        term("Commands");
        buffer();
        form();
        text();
        command();
        segment();
        range();
        number();
        colour();
        letters();
        join();
        calls();
        errorPosition();
        everyCharacterCan();
        keywords();
        endTerms("Commands");
    }

    private static void buffer() {
        says("The command text is a buffer of at most 60 characters.");
        String sixty = "add 0 1a;put 0@0 1b;put 0@1 1c;put 0@1 1d;add 0 5e;add 0 61f";
        due(60, sixty.length());
        RibbonQuarry x = new RibbonQuarry();
        typeAll(x, sixty);
        for (int turn = 0; turn < 3; turn++) {
            due("IllegalStateException", Checks.outcome(() -> x.type('f')));
        }
        due(6, x.run());
        dueReels(x, "1b1d1c1a5e61f");
        due(6, runAll(x, sixty.replace(" 0", " 3")));
        dueReels(x, "1b1d1c1a5e61f", "", "", "1b1d1c1a5e61f");
    }

    // ---- the form

    private static void form() {
        says("A command text has the following form, where braces mean zero or more repetitions, brackets an optional"
                + " part, and a vertical bar separates alternatives:");
        for (String text : TEXTS) {
            dueFine(text);
            for (String near : nearby(text)) {
                RibbonQuarry x = new RibbonQuarry();
                PlainModel model = new PlainModel();
                for (char sign : near.toCharArray()) {
                    x.type(sign);
                    model.type(sign);
                }
                due(near + ": " + Checks.outcome(model::run), near + ": " + Checks.outcome(x::run));
                due(near + ": " + Checks.outcome(model::errorPosition), near + ": " + Checks.outcome(x::errorPosition));
            }
        }
    }

    /** All texts that differ from this one by a sign more, a sign less or another sign. */
    private static Set<String> nearby(String text) {
        Set<String> near = new LinkedHashSet<>();
        for (int at = 0; at <= text.length(); at++) {
            String start = text.substring(0, at);
            String rest = text.substring(at);
            String shorter = rest.isEmpty() ? "" : rest.substring(1);
            near.add(start + shorter);
            for (char sign = 32; sign <= 126; sign++) {
                near.add(start + sign + rest);
                near.add(start + sign + shorter);
            }
        }
        return near;
    }

    private static void dueFine(String... texts) {
        for (String text : texts) {
            int commands = text.split(";").length;
            due(text + ": " + commands, text + ": " + Checks.outcome(() -> runAll(with(REELS), text)));
        }
    }

    private static void dueError(int position, String... texts) {
        for (String text : texts) {
            RibbonQuarry x = with(REELS);
            runThrows(Checks.ARGUMENT, x, text);
            due(text + ": " + position, text + ": " + Checks.outcome(x::errorPosition));
        }
    }

    private static void text() {
        says("text = command { \";\" command }");
        for (int count = 1; count <= 7; count++) {
            dueFine(";swap 22".repeat(count).substring(1));
        }
        for (String first : TEXTS) {
            dueError(first.length(), first + " ", first + ",", first + " ;swap 22", first + "&" + first);
            for (String second : TEXTS) {
                dueError(first.length() + 1, first + ";;" + second, first + "; " + second);
                dueError(first.length() + 1 + second.length() + 1, first + ";" + second + ";");
            }
        }
        dueError(0, "", ";", ";swap 22", " swap 22");
    }

    private static void command() {
        says("command = \"add \" digit \" \" segment | \"put \" digit \"@\" number \" \" segment"
                + " | \"drop \" digit \"@\" number | \"tie \" digit \"@\" number \"=\" number"
                + " | \"cut \" digit \"@\" number \">\" digit | \"join \" digit \"<\" digit"
                + " | \"swap \" digit digit | \"flip \" digit \"@\" range | \"dye \" digit \"@\" range \" \" colour");
        dueFine(TEXTS);
        dueError(3, "add0 1a", "put1@0 1a", "tie3@0=1", "cut2@1>0", "dye1@0-1 h");
        dueError(4, "add  0 1a", "add x 1a", "drop3@2", "join1<3", "swap03", "flip3@0-2", "cut  2@1>0", "dye -1@0-1 h");
        dueError(5, "add 01a", "add 00 1a", "put 0 1a", "put 00@1 1a", "tie 0=1", "cut 0>1", "drop  0@0", "dye 1 0-1 h");
        dueError(6, "add 0  1a", "put 0@ 1a", "drop 0", "drop 00@0", "drop 0 0", "tie 0@=1", "join 0", "join 0>1",
                "join 01", "swap 0", "swap 0 1", "flip 0 0-1", "flip 0-1", "dye 1@-1 h");
        dueError(7, "put 0@1a", "drop 0@", "drop 0@a", "tie 0@0", "tie 0@0 1", "cut 0@0", "cut 0@0<1", "join 0<",
                "swap 012", "dye 0@0 a", "flip 0@-1");
        dueError(8, "put 0@1  1a", "put 0@1 a", "tie 0@0=", "tie 0@0=a", "cut 0@0>", "cut 0@0>x", "join 0<12", "flip 0@0");
        dueError(9, "cut 0@0>12", "flip 0@0-", "dye 0@0-1", "dye 0@0-1a");
        dueError(10, "dye 0@0-1 ", "dye 0@0-1  a", "flip 0@0-1 a");
        for (int digit = 4; digit <= 9; digit++) {
            String[] texts = {"add D 1a", "put D@0 1a", "drop D@0", "tie D@0=1", "cut D@0>0", "cut 1@0>D", "join D<1",
                "join 1<D", "swap D1", "swap 1D", "flip D@0-0", "dye D@0-0 a"};
            for (String text : texts) {
                runThrows(Checks.STATE, with(REELS), text.replace("D", String.valueOf(digit)));
            }
        }
    }

    private static void segment() {
        says("segment = number colour");
        dueFine("add 0 1a", "add 0 9h", "add 0 10a", "add 0 99h", "add 0 01c", "put 1@0 07b");
        dueError(6, "add 0 a", "add 0 a1", "add 0 -1a", "add 0 ");
        dueError(7, "add 0 1", "add 0 1 a", "add 0 1-a");
        dueError(8, "add 0 12", "add 0 123a", "add 0 1aa", "put 1@0 a", "put 1@0 ");
        dueError(9, "put 1@0 1", "put 1@0 1 a");
        dueError(10, "put 1@0 12", "put 1@0 123a", "put 1@0 1aa");
    }

    private static void range() {
        says("range = number \"-\" number");
        dueFine("flip 3@0-2", "flip 3@00-02", "flip 3@1-1", "dye 3@1-1 a", "dye 3@00-2 a");
        dueError(7, "flip 3@", "flip 3@-2", "dye 3@0", "dye 3@0 a", "dye 3@0=1 a");
        dueError(8, "flip 3@0", "flip 3@0 2", "flip 3@0=2", "flip 3@0;", "dye 3@0-", "dye 3@0- a");
        dueError(9, "flip 3@0-", "flip 3@0--2", "flip 3@000-1", "flip 3@0-x");
        dueError(10, "flip 3@0-1-2", "dye 3@0-001 a");
        // A range that ends before it begins has the form; the command fails.
        runThrows(Checks.STATE, with(REELS), "flip 3@2-0");
        runThrows(Checks.STATE, with(REELS), "dye 3@1-0 a");
    }

    private static void number() {
        says("number = digit [ digit ]");
        for (int number = 1; number <= 99; number++) {
            for (String digits : new String[] {String.valueOf(number), String.format("%02d", number)}) {
                RibbonQuarry x = with(REELS);
                due(1, runAll(x, "tie 3@0=" + digits));
                due(number, x.length(3, 0));
            }
        }
        for (int number = 0; number < 60; number++) {
            for (String digits : new String[] {String.valueOf(number), String.format("%02d", number)}) {
                RibbonQuarry x = with(stairs(1, 60));
                due(1, runAll(x, "tie 0@" + digits + "=99"));
                due(number, x.longestInRange(0, 0, 59));
            }
        }
        runThrows(Checks.STATE, with(REELS), "tie 3@0=0");
        runThrows(Checks.STATE, with(REELS), "tie 3@0=00");
        dueError(6, "tie 3@x=1", "tie 3@ 0=1");
        dueError(7, "tie 3@0x=1");
        dueError(8, "tie 3@0=", "tie 3@0=+1", "tie 3@0=-1", "tie 3@0= 1", "tie 3@000=1");
        dueError(10, "tie 3@0=123", "tie 3@0=001", "tie 3@0=100");
    }

    private static void colour() {
        says("colour = \"a\" | \"b\" | \"c\" | \"d\" | \"e\" | \"f\" | \"g\" | \"h\"");
        for (char sign = 32; sign <= 126; sign++) {
            if (sign >= 'a' && sign <= 'h') {
                dueFine("add 0 12" + sign, "put 3@0 12" + sign, "dye 1@0-1 " + sign);
            } else {
                dueError(8, "add 0 12" + sign);
                dueError(10, "put 3@0 12" + sign, "dye 1@0-1 " + sign);
            }
        }
    }

    // ---- what the commands do

    private static void letters() {
        says("The letters a to h stand for the colours 0 to 7.");
        for (int colour = 0; colour < 8; colour++) {
            RibbonQuarry x = with(REELS);
            runAll(x, "add 0 1" + letter(colour));
            due(colour, x.colour(0, 0));
            runAll(x, "put 3@0 1" + letter(colour));
            due(colour, x.colour(3, 0));
            runAll(x, "dye 1@1-1 " + letter(colour));
            due(colour, x.colour(1, 1));
        }
    }

    private static void join() {
        says("In \"join\", the segments of the second reel come behind those of the first one.");
        RibbonQuarry x = with(REELS);
        runAll(x, "join 1<3");
        dueReels(x, "", "2b3b70g8h9g", "4c50d6c");
        runAll(x, "join 2<1");
        dueReels(x, "", "", "4c50d6c2b3b70g8h9g");
        runAll(x, "join 0<2");
        dueReels(x, "4c50d6c2b3b70g8h9g");
    }

    private static void calls() {
        says("The commands call append(), insert(), remove(), retie(), cut(), splice(), exchange(), flip() and dye(), with"
                + " the numbers and colours of the command as parameters in their order.");
        dueSame("add 3 7c", x -> x.append(3, 7, 2));
        dueSame("put 3@1 8d", x -> x.insert(3, 1, 8, 3));
        dueSame("put 1@2 99h", x -> x.insert(1, 2, 99, 7));
        dueSame("drop 3@2", x -> x.remove(3, 2));
        dueSame("tie 2@1=9", x -> x.retie(2, 1, 9));
        dueSame("cut 3@1>0", x -> x.cut(3, 1, 0));
        dueSame("cut 1@2>0", x -> x.cut(1, 2, 0));
        dueSame("join 1<3", x -> x.splice(1, 3));
        dueSame("join 1<0", x -> x.splice(1, 0));
        dueSame("swap 13", x -> x.exchange(1, 3));
        dueSame("flip 3@0-2", x -> x.flip(3, 0, 2));
        dueSame("flip 2@1-2", x -> x.flip(2, 1, 2));
        dueSame("dye 3@1-2 e", x -> x.dye(3, 1, 2, 4));
        for (int reel = 0; reel <= 9; reel++) {
            for (int number = 0; number <= 5; number++) {
                int r = reel;
                int n = number;
                dueAlike("add " + r + " " + n + "a", x -> x.append(r, n, 0));
                dueAlike("put 3@" + n + " " + r + "h", x -> x.insert(3, n, r, 7));
                dueAlike("put " + r + "@" + n + " 9h", x -> x.insert(r, n, 9, 7));
                dueAlike("drop " + r + "@" + n, x -> x.remove(r, n));
                dueAlike("tie " + r + "@" + n + "=" + n, x -> x.retie(r, n, n));
                dueAlike("cut " + r + "@" + n + ">0", x -> x.cut(r, n, 0));
                dueAlike("cut 3@" + n + ">" + r, x -> x.cut(3, n, r));
                dueAlike("join " + r + "<" + n, x -> x.splice(r, n));
                dueAlike("swap " + r + n, x -> x.exchange(r, n));
                dueAlike("flip " + r + "@" + n + "-2", x -> x.flip(r, n, 2));
                dueAlike("flip 3@" + r + "-" + n, x -> x.flip(3, r, n));
                dueAlike("dye " + r + "@0-" + n + " c", x -> x.dye(r, 0, n, 2));
            }
        }
    }

    /** The command must leave all that the call leaves. */
    private static void dueSame(String text, Look.Use call) {
        due(Look.after(() -> past(REELS), call), Look.after(() -> past(REELS), x -> runAll(x, text)));
    }

    /** The command must fail just when the call throws, and leave the same reels. */
    private static void dueAlike(String text, Look.Use call) {
        RibbonQuarry called = with(REELS);
        RibbonQuarry run = with(REELS);
        boolean fails = Checks.outcome(() -> call.of(called)).endsWith("Exception");
        due(text + (fails ? " IllegalStateException" : " 1"), text + " " + Checks.outcome(() -> runAll(run, text)));
        for (int reel = 0; reel < 4; reel++) {
            due(text + " " + Look.reel(called, reel), text + " " + Look.reel(run, reel));
        }
    }

    // ---- error positions

    private static void errorPosition() {
        says("The error position of a text is the index of the first character that cannot continue any command text.");
        dueError(0, "x", "A", " add 0 1a", ";", "1", "i", "q", "xadd 0 1a");
        dueError(1, "dx", "ax", "d;", "px", "da", "p d", "sx", "fi", "jx", "tx", "cx", "a 0 1a");
        dueError(2, "drxp", "dyo", "ado", "pur", "tip", "cup", "jon", "swo", "flo", "dr 0@0", "dy 0@0-0 a");
        dueError(3, "addx", "dyee", "drox", "swax", "flix", "joix", "dro 0@0", "add;");
        dueError(4, "add  ", "add a", "drop_", "flip@", "join-", "swap1", "put -", "cut @", "dye  1");
        dueError(8, "add 0 1aa", "add 0 1a ", "add 0 123", "add 0 12i", "put 0@123", "tie 0@12-", "drop 0@1x", "swap 01;x",
                "swap 01;;");
        dueError(9, "add 0 1a;;", "add 0 1a; add", "drop 9@9;x", "swap 01;dx", "swap 00;d;");
        dueError(11, "swap 00;dro;", "add 0 1a;adx");
        dueError(59, "add 0 1a;".repeat(6) + "add 0x", "swap 01;".repeat(7) + "swaP", "swap 01;".repeat(7) + "addx");
        // A later character that could not continue either does not count.
        dueError(5, "add 0xadd 0xxxx;;;;");
        dueError(2, "adxadx;x");
    }

    private static void everyCharacterCan() {
        says("If every character can, the error position is the length of the text.");
        dueError(0, "");
        for (String text : TEXTS) {
            for (String whole : new String[] {text, "swap 22;" + text, text + ";" + text + ";" + text}) {
                dueLengths(whole);
            }
        }
        dueError(60, "add 0 1a;".repeat(6) + "add 0 ", "add 0 1a;".repeat(6) + "swap 0", "swap 01;".repeat(7) + "swap");
        dueError(60, "swap 01;".repeat(3) + "add 0 1a;".repeat(4), "put 0@0 01a;".repeat(5));
    }

    /** A beginning of a text is a text itself or wants more behind its end. */
    private static void dueLengths(String text) {
        for (int length = 1; length < text.length(); length++) {
            String start = text.substring(0, length);
            if (!PlainModel.isText(start)) {
                dueError(length, start);
            }
        }
    }

    private static void keywords() {
        says("Keywords are matched character by character.");
        for (String keyword : KEYWORDS) {
            for (int at = 0; at < keyword.length(); at++) {
                String start = keyword.substring(0, at);
                String rest = keyword.substring(at);
                dueError(at, start, start + "z" + rest.substring(1) + " 0", start + rest.toUpperCase() + " 0",
                        start + " 0", start + "0", start + "~");
                dueError(8 + at, "swap 22;" + start, "swap 22;" + start + "z");
            }
            dueError(keyword.length(), keyword, keyword + "s 0", keyword + "@0", keyword + "0 1");
        }
        dueError(2, "dyop 0@0", "drye 0@0-0 a");
    }
}
