import java.math.BigInteger;
import java.util.ArrayList;
import java.util.List;
import java.util.regex.Matcher;
import java.util.regex.Pattern;

/**
 * Section 1 and promises 1 to 11: every sentence that names a bound of a text, of the buffer or of a
 * number, from both sides of the bound.
 */
public final class TextEdgesTest {
    private static final Check CHECK = new Check();
    private static final String CURVE = "curve a 1 2;";
    /** Every statement and every step, each with as few parts as it can have. */
    private static final String ALL = "curve ab 1 2;cell ab 100 1 0 1;program charge 1 2 hold 3 4"
            + " discharge 5 6 rest 7 repeat 0 8;efficiency 500;fade 100;heat 1 0;limits 0 1 250;"
            + "ambient 0;warn 0 0 0;derate 0";

    // ---- numbers: "LOW to HIGH"

    /** Where a number of this range stands between two pieces of a text. */
    private static void range(String before, int low, int high, String after) {
        int cells = (before + after).split("cell ", -1).length - 1;
        int position = before.length();
        CHECK.good(before + low + after, cells);
        CHECK.good(before + high + after, cells);
        CHECK.good(before + "000" + low + after, cells);
        CHECK.good(before + "0000000000000" + high + after, cells);
        if (low > 0) {
            CHECK.error(before + (low - 1) + after, 2, position);
        }
        CHECK.error(before + (high + 1) + after, 2, position);
        // A number that wraps around to one within the range is none within it.
        for (int bits : new int[] {31, 32, 63, 64, 128}) {
            CHECK.error(before + BigInteger.TWO.pow(bits).add(BigInteger.valueOf(low)) + after, 2, position);
        }
        CHECK.error(before + "   " + (high + 1) + after, 2, position + 3);
        CHECK.error(before + "00" + (high + 1) + after, 2, position);
    }

    private static void ranges() {
        range("curve a ", 0, 5000, " 5000");
        range("curve a 0 ", 0, 5000, "");
        range("curve a 7 ", 7, 5000, "");
        range("curve a 7 9 ", 9, 5000, "");
        range("curve a 5000 ", 5000, 5000, "");
        range("curve a 0 0 0 0 0 0 0 0 0 3 ", 3, 5000, "");
        range(CURVE + "cell a ", 100, 100000, " 1 0 1");
        range(CURVE + "cell a 100 ", 1, 500, " 0 1");
        range(CURVE + "cell a 100 1 ", 0, 500, " 1");
        range(CURVE + "cell a 100 1 0 ", 1, 200, "");
        range("program charge ", 1, 5000, " 0");
        range("program charge 1 ", 0, 5000, "");
        range("program hold ", 0, 5000, " 1");
        range("program hold 0 ", 1, 5000, "");
        range("program discharge ", 1, 5000, " 0");
        range("program discharge 1 ", 0, 5000, "");
        range("program rest ", 1, 5000, "");
        StringBuilder steps = new StringBuilder("program rest 1");
        for (int number = 1; number <= 11; number++) {
            range(steps + " repeat ", 0, number - 1, " 1");
            range(steps + " repeat 0 ", 1, 50, "");
            steps.append(number % 3 == 0 ? " repeat 0 1" : " rest 1");
        }
        range("efficiency ", 500, 1000, "");
        range("fade ", 100, 1000000, "");
        range("heat ", 1, 10000, " 0");
        range("heat 1 ", 0, 1, "");
        range("heat 99 ", 0, 99, "");
        range("heat 100 ", 0, 100, "");
        range("heat 101 ", 0, 100, "");
        range("heat 10000 ", 0, 100, "");
        range("limits ", 0, 5000, " 5000 600");
        range("limits 0 ", 0, 5000, " 600");
        range("limits 1234 ", 1234, 5000, " 600");
        range("limits 5000 ", 5000, 5000, " 600");
        range("limits 0 0 ", 250, 1000, "");
        range("ambient ", 0, 500, "");
        range("warn ", 0, 5000, " 5000 600");
        range("warn 0 ", 0, 5000, " 600");
        range("warn 1234 ", 1234, 5000, " 600");
        range("warn 0 0 ", 0, 1000, "");
        range("derate ", 0, 200, "");
    }

    private static void firstStepIsNoRepeat() {
        // Its STEP has no number that is in range, so whatever stands there is out of it.
        CHECK.error("program repeat 0 1", 2, 15);
        CHECK.error("program repeat 1 1", 2, 15);
        CHECK.error("program repeat", 1, 14);
        CHECK.error("program repeat x", 1, 15);
        CHECK.error("program rest 1;program repeat 0 1", 2, 30);
        CHECK.good("program rest 1 repeat 0 1", 0);
    }

    // ---- lengths of lists

    private static void howManyVoltages() {
        StringBuilder curve = new StringBuilder("curve a");
        for (int n = 0; n <= 13; n++) {
            String text = curve.toString();
            if (n < 2) {
                CHECK.error(text, 1, text.length());
                CHECK.error(text + ";ambient 1", 1, text.length());
                CHECK.error(text + " b", 1, text.length() + 1);
            } else if (n <= 11) {
                CHECK.good(text, 0);
                CHECK.error(text + " b", 1, text.length() + 1);
            } else {
                CHECK.error(text, 1, "curve a 1 2 3 4 5 6 7 8 9 10 11 ".length());
            }
            curve.append(' ').append(n + 1);
        }
        // The twelfth cannot stand there, whatever its number.
        CHECK.error("curve a 1 2 3 4 5 6 7 8 9 10 11 5001", 1, 32);
        CHECK.error("curve a 1 2 3 4 5 6 7 8 9 10 11 0", 1, 32);
    }

    private static void howManySteps() {
        String[] steps = {" charge 1 1", " hold 1 1", " discharge 1 1", " rest 1", " repeat 0 1"};
        for (String step : steps) {
            StringBuilder program = new StringBuilder("program rest 1");
            for (int n = 2; n <= 12; n++) {
                CHECK.good(program.toString(), 0);
                program.append(step);
            }
            CHECK.good(program.toString(), 0);
            CHECK.error(program + step, 1, program.length() + 1);
            CHECK.error(program + "   " + step, 1, program.length() + 4);
            CHECK.error(program + " x", 1, program.length() + 1);
            CHECK.error(program + " 5", 1, program.length() + 1);
        }
        CHECK.error("program", 1, 7);
        CHECK.error("program ;", 1, 8);
    }

    private static void howManyStatements() {
        StringBuilder curves = new StringBuilder("curve a 1 2");
        StringBuilder cells = new StringBuilder("curve a 1 2;cell a 100 1 0 1");
        StringBuilder programs = new StringBuilder("program rest 1");
        for (int n = 2; n <= 6; n++) {
            if (n <= 4) {
                curves.append(";curve ").append((char) ('a' + n)).append(" 1 2");
                programs.append(";program rest 1");
                CHECK.good(curves.toString(), 0);
                CHECK.good(programs.toString(), 0);
            }
            cells.append(";cell a 100 1 0 1");
            CHECK.good(cells.toString(), n);
        }
        // The position is that of the word; what would stand behind it is not read.
        String[] more = {"curve z 1 2", "curve a 1 2", "curve", "curve 5"};
        for (String one : more) {
            CHECK.error(curves + ";" + one, 4, curves.length() + 1);
            CHECK.error(curves + "  ;  " + one, 4, curves.length() + 5);
            CHECK.error(programs + ";" + one.replace("curve", "program"), 4, programs.length() + 1);
            CHECK.error(cells + ";" + one.replace("curve", "cell"), 4, cells.length() + 1);
        }
        CHECK.good(curves + ";" + programs + ";ambient 5", 0);
        CHECK.good(cells + ";curve b 1 2;curve c 1 2;curve d 1 2;" + programs, 6);
        // They are counted anew by each text.
        CellCycler x = new CellCycler();
        for (int n = 0; n < 3; n++) {
            CHECK.same("six cells again", Check.load(x, cells.toString()), 6);
            CHECK.same("a seventh", Check.load(x, cells + ";cell a 100 1 0 1"), -101 - cells.length());
            CHECK.same("four curves again", Check.load(x, curves.toString()), 0);
            CHECK.same("a fifth", Check.load(x, curves + ";curve z 1 2"), -101 - curves.length());
            CHECK.same("four programs again", Check.load(x, programs.toString()), 0);
            CHECK.same("one more", Check.load(x, programs + ";program"), -101 - programs.length());
        }
        CHECK.same("still four programs", x.count(1), 4);
    }

    // ---- words, names, bytes

    private static void whatCannotStand() {
        Matcher m = Pattern.compile("[a-z]+|[0-9]+|;").matcher(ALL);
        int statements = 0;
        boolean startsStatement = true;
        boolean inProgram = false;
        CHECK.good(ALL, 1);
        while (m.find()) {
            String before = ALL.substring(0, m.start());
            String after = ALL.substring(m.end());
            char first = m.group().charAt(0);
            int cells = m.start() > 20 ? 1 : 0;
            for (String sign : new String[] {"!", ",", "X", "-", "-1", ".", "\t", "\n", "\u00b2", "\u00ff"}) {
                CHECK.error(before + sign + after, 1, m.start());
                CHECK.error(before + "  " + sign, 1, m.start() + 2);
            }
            if (first == ';') {
                CHECK.error(before + " ;;" + after, 1, m.start() + 2);
                CHECK.error(before + " x" + after, 1, m.start() + 1);
                CHECK.good(before, cells);
                CHECK.good(before + "   ", cells);
            } else if (first >= '0' && first <= '9') {
                CHECK.error(before + "x" + after, 1, m.start());
                CHECK.error(before + "rest" + after, 1, m.start());
                CHECK.error(before + ";" + after, 1, m.start());
            } else {
                CHECK.error(before + "5" + after, 1, m.start());
                boolean stepBehindTheFirst = inProgram && !before.endsWith("program ");
                if (!stepBehindTheFirst) {
                    CHECK.error(before + ";" + after, 1, m.start());
                }
                if (startsStatement || inProgram) {
                    String wrong = inProgram ? "cell" : "rest";
                    CHECK.error(before + wrong + " " + after, 1, m.start());
                    CHECK.error(before + "x" + m.group() + after, 1, m.start());
                    CHECK.error(before + m.group() + "x" + after, 1, m.start());
                    CHECK.error(before + m.group().substring(1) + after, 1, m.start());
                }
                if (stepBehindTheFirst) {
                    CHECK.good(before, cells);
                    startsStatement = false;
                    continue;
                }
            }
            if (first != ';') {
                // Ended here, it ends too early: behind a semicolon, a word or within its numbers.
                CHECK.error(before, 1, before.length());
                CHECK.error(before + "    ", 1, before.length() + 4);
            }
            if (startsStatement) {
                statements++;
                inProgram = m.group().equals("program");
            }
            startsStatement = first == ';';
            inProgram &= first != ';';
        }
        CHECK.same("statements", statements, 10);
    }

    private static void spaces() {
        Matcher m = Pattern.compile("[a-z]+|[0-9]+|;").matcher(ALL);
        StringBuilder wide = new StringBuilder();
        StringBuilder narrow = new StringBuilder();
        boolean afterWord = false;
        boolean afterNumber = false;
        while (m.find()) {
            boolean word = Character.isLetter(m.group().charAt(0));
            boolean number = Character.isDigit(m.group().charAt(0));
            wide.append("  ").append(m.group());
            narrow.append(afterWord && word || afterNumber && number ? " " : "").append(m.group());
            afterWord = word;
            afterNumber = number;
        }
        CHECK.good(wide + "   ", 1);
        CHECK.good(narrow.toString(), 1);
        CHECK.error("cur ve a 1 2", 1, 0);
        CHECK.error("ambient 1 0", 1, 10);
        CHECK.error("programrest 1", 1, 0);
        CHECK.error("curvea 1 2", 1, 0);
        CHECK.error("ambient 5cell a", 1, 9);
        CHECK.good("program rest1charge1 2hold3 4", 0);
    }

    private static void everyByte() {
        for (int b = 1; b <= 255; b++) {
            boolean letter = b >= 'a' && b <= 'z';
            boolean digit = b >= '0' && b <= '9';
            char sign = (char) b;
            String behind = "ambient 5" + sign;
            String between = "ambient" + sign + "5";
            String ahead = sign + "ambient 5";
            if (digit || b == ' ') {
                CHECK.good(behind, 0);
                CHECK.good(between, 0);
            } else {
                CHECK.error(behind, 1, b == ';' ? 10 : 9);
                CHECK.error(between, 1, letter ? 0 : 7);
            }
            if (b == ' ') {
                CHECK.good(ahead, 0);
            } else {
                CHECK.error(ahead, 1, 0);
            }
            String name = "curve " + sign + " 1 2";
            if (letter) {
                CHECK.good(name, 0);
            } else if (b == ' ') {
                CHECK.error(name, 1, 8);
            } else {
                CHECK.error(name, 1, 6);
            }
        }
    }

    private static void names() {
        String letters = "zyxwvutsr";
        for (int length = 1; length <= 9; length++) {
            String name = letters.substring(0, length);
            if (length <= 6) {
                CHECK.good("curve " + name + " 1 2;cell " + name + " 100 1 0 1", 1);
                CHECK.error("curve " + name + " 1 2;curve " + name, 3, 17 + length);
            } else {
                CHECK.error("curve " + name + " 1 2", 3, 6);
                CHECK.error("curve   " + name, 3, 8);
                CHECK.error("curve zyxwvu 1 2;cell " + name + " 100 1 0 1", 3, 22);
            }
        }
        CHECK.error("curve aaaaaaaaaaaaaaaaaaaaaaaaaaaaaaaaaaaaaaaaaaaaaaaaaaaaaaaaaaaaaaaaaaaaaaa 1 2", 3, 6);
        CHECK.good("curve aaaaaa 1 2;curve aaaaab 1 2;curve baaaaa 1 2;curve aaaaa 1 2;"
                + "cell baaaaa 100 1 0 1", 1);
        CHECK.error("curve aaaaaa 1 2;cell aaaaab 100 1 0 1", 3, 22);
        CHECK.error("curve aaaaaa 1 2;cell baaaaa 100 1 0 1", 3, 22);
        CHECK.error("curve aaaaaa 1 2;cell aaaaa 100 1 0 1", 3, 22);
        CHECK.error("curve a 1 2;cell aaaaaa 100 1 0 1", 3, 17);
        for (int same = 0; same < 3; same++) {
            String name = "bcd".substring(same, same + 1);
            CHECK.error("curve b 1 2;curve c 1 2;curve d 1 2;curve " + name + " 1 2", 3, 42);
        }
        // A curve that comes later, or that is being described, is not there yet.
        CHECK.error("cell a 100 1 0 1;curve a 1 2", 3, 5);
        CHECK.error("curve b 1 2;cell a 100 1 0 1;curve a 1 2", 3, 17);
        CHECK.good("curve curve 1 2;curve repeat 1 2;cell repeat 100 1 0 1", 1);
        // Each cell has the curve of its name.
        CellCycler x = Check.loaded("curve a 10 20;curve ab 30 40;curve b 50 60 70;cell b 100 1 0 1;"
                + "cell a 100 1 0 1;cell ab 100 1 0 1");
        for (int channel = 0; channel < 3; channel++) {
            CHECK.same("empty", x.restVoltage(channel, 0), new int[] {50, 10, 30}[channel]);
            CHECK.same("full", x.restVoltage(channel, 100), new int[] {70, 20, 40}[channel]);
        }
    }

    private static void theFirstErrorEndsIt() {
        CHECK.error("ambient 501;efficiency 1", 2, 8);
        CHECK.error("ambient 501 5", 2, 8);
        CHECK.error("curve abcdefg 5001", 3, 6);
        CHECK.error("cell a 1", 3, 5);
        CHECK.error("curve a 5001 !", 2, 8);
        CHECK.error("curve a ! 5001", 1, 8);
        CHECK.error("limits 10 9 1", 2, 10);
        CHECK.error("heat 0 101", 2, 5);
        CHECK.error("program charge 0 5001", 2, 15);
        CHECK.error("!;ambient 501", 1, 0);
    }

    private static void theLastOneCounts() {
        CellCycler x = Check.loaded("efficiency 600;fade 200;heat 70 60;limits 1 2 300;ambient 11;derate 9;"
                + "efficiency 500;fade 100;heat 60 50;limits 0 1 250;ambient 0;derate 0;"
                + "efficiency 1000;fade 1000000;heat 10000 100;limits 5000 5000 1000;ambient 500;derate 200");
        int[] due = {1000, 1000000, 10000, 100, 5000, 5000, 1000, 500};
        for (int what = 0; what < 8; what++) {
            CHECK.same("the last of two, setting " + what, x.setting(what), due[what]);
        }
        CHECK.same("the last SPAN", x.setDerate(0), 200);
        String channel = "curve a 3000 3000;cell a 1000 1 0 1;program rest 9;";
        String[] warns = {"warn 3001 5000 1000;warn 0 2999 1000", "warn 0 2999 1000;warn 3001 5000 1000",
            "warn 0 2999 1000;warn 0 5000 249", "warn 0 2999 1000;warn 0 5000 250"};
        for (int k = 0; k < warns.length; k++) {
            CellCycler y = Check.loaded(channel + warns[k]);
            y.start(0, 0);
            y.advance(1);
            CHECK.same("the last of " + warns[k], y.warned(0), new int[] {1, 2, 3, 0}[k]);
        }
    }

    private static void withoutAStatement() {
        int[] usual = {990, 100000, 100, 5, 0, 5000, 600, 250};
        CellCycler x = Check.loaded("efficiency 600;fade 200;heat 70 60;limits 1 2 300;ambient 11;derate 9;"
                + "warn 4000 4001 5");
        x.setLimits(7, 8);
        x.setAmbient(99);
        Check.load(x, "curve a 3000 3000;cell a 1000 1 0 1;program rest 9");
        for (int what = 0; what < 8; what++) {
            CHECK.same("without it, setting " + what, x.setting(what), usual[what]);
        }
        CHECK.same("without derate", x.setDerate(0), 0);
        x.start(0, 0);
        x.advance(1);
        CHECK.same("without warn", x.warned(0), 0);
    }

    /** What a text leaves out is not taken from one before, nor from what a prediction has tried. */
    private static void anewByEachText() {
        CellCycler x = Check.loaded("curve a 0 10 20 4000 5000;curve b 1 2;cell a 1000 1 0 1;cell b 1000 1 0 1;"
                + "program rest 1 repeat 0 50 repeat 0 50;program hold 0 5000 discharge 9 5000 repeat 0 50");
        x.start(0, 1);
        x.start(1, 0);
        x.enqueue(1, 1);
        x.advance(99);
        x.doneIn(1);
        x.capacityIf(0, 1);
        CHECK.same("records", x.recordCount() > 28, true);
        CHECK.same("a full log", x.logSize(), 60);
        CHECK.same("two voltages only", Check.load(x, "curve a 3000 4000;cell a 1000 1 0 1;program rest 1"), 1);
        CHECK.same("now", x.now(), 0);
        CHECK.same("rest voltage", x.restVoltage(0, 250), 3250);
        CHECK.same("no log", x.logSize(), 0);
        CHECK.same("no records", x.recordCount(), 0);
        CHECK.same("idle", x.inState(0), 1);
        CHECK.same("no queue", x.queueSize(0), 0);
        CHECK.same("no program", x.value(0, 1), -1);
        CHECK.same("no step 1", x.stepValue(0, 1, 0), -1);
        x.start(0, 0);
        CHECK.same("no repeat of the text before", x.doneIn(0), 1);
        CHECK.same("its step ends", x.advance(1), 1);
        CHECK.same("and it is done", x.value(0, 0), 3);
        int[][] due = {{0, 0, 0, 0}, {1, 0, 1, 0}, {1, 0, 2, 0}};
        CHECK.same("three events", x.logSize(), due.length);
        for (int k = 0; k < due.length; k++) {
            for (int what = 0; what < 4; what++) {
                CHECK.same("entry " + k + ", " + what, x.logEntry(k, what), due[k][what]);
            }
        }
    }

    // ---- the buffer

    private static void buffer() {
        for (int b = 1; b <= 255; b++) {
            CellCycler x = new CellCycler();
            CHECK.same("one byte " + b, x.append((long) b), 1);
            CHECK.same("at the front " + b, x.append((long) b << 56), 2);
            CHECK.same("in the middle " + b, x.append((long) b << 24), 3);
            CHECK.same("in front of zeros " + b, x.append((long) b << 32 | 1), 5);
            CHECK.same("eight of " + b, x.append(b * 0x0101010101010101L), 13);
        }
        CellCycler x = new CellCycler();
        CHECK.same("no byte", x.append(0L), 0);
        CHECK.same("all ones", x.append(-1L), 8);
        CHECK.same("the least long", x.append(Long.MIN_VALUE), 9);
        CHECK.same("the greatest long", x.append(Long.MAX_VALUE), 17);
        // The first byte is the most significant one, wherever zeros stand between.
        CellCycler y = Check.loaded("curve abcdef 1 2");
        long[][] spellings = {{0x616263646566L}, {0x6162636465660000L}, {0x6100620063006400L, 0x6566L},
            {0x61L, 0x62L, 0x63L, 0x64L, 0x65L, 0x66L}, {0L, 0x61620000000063L, 0L, 0x6400000000006566L}};
        for (long[] spelling : spellings) {
            for (long bytes : spelling) {
                y.append(bytes);
            }
            CHECK.same("abcdef", y.curveNamed(), 0);
        }
    }

    private static CellCycler holding(String text, int length) {
        CellCycler x = new CellCycler();
        Check.type(x, text + " ".repeat(length - text.length()));
        return x;
    }

    private static void fullBuffer() {
        for (int held = 792; held <= 800; held++) {
            for (int more = 0; more <= 8; more++) {
                CellCycler x = holding("ambient 7", held);
                long bytes = more == 0 ? 0 : 0x2020202020202020L >>> (64 - 8 * more);
                boolean fits = held + more <= 800;
                CHECK.same(held + " and " + more, x.append(bytes), fits ? held + more : -2);
                CHECK.same("length then", x.append(0), fits ? held + more : held);
            }
        }
        CellCycler x = holding("ambient 7", 799);
        CHECK.same("2 are too many", x.append(0x2121L), -2);
        CHECK.same("1 is not", x.append(0x20L), 800);
        CHECK.same("nothing of the refused call is there", x.load(), 0);
        CHECK.same("its number", x.setting(7), 7);
        CHECK.same("emptied", x.append(0), 0);
        CHECK.same("800 bytes without an end", holding("ambient 7;", 800).load(), -900);
        CHECK.same("a name of 800 bytes", holding("a", 800).curveNamed(), -1);
        CHECK.error(" ".repeat(799) + "!", 1, 799);
        CHECK.error(" ".repeat(788) + "ambient 501;", 2, 796);
        CHECK.good("0".repeat(1).replace("0", "ambient ") + "0".repeat(791) + "7", 0);
    }

    private static void whatEmptiesTheBuffer() {
        CellCycler x = Check.loaded(CURVE + "curve b 1 2");
        Check.type(x, "ambient 5");
        CHECK.same("load", x.load(), 0);
        CHECK.same("empties", x.append(0), 0);
        Check.type(x, "ambient 501");
        CHECK.same("load with an error", x.load(), -108);
        CHECK.same("empties too", x.append(0), 0);
        CHECK.same("load of nothing", x.load(), -100);
        CHECK.same("error 1", x.loadError(), 1);
        CellCycler y = Check.loaded(CURVE + "curve b 1 2");
        Check.type(y, "b");
        CHECK.same("curveNamed", y.curveNamed(), 1);
        CHECK.same("empties", y.append(0), 0);
        Check.type(y, "c");
        CHECK.same("no such curve", y.curveNamed(), -1);
        CHECK.same("empties too", y.append(0), 0);
        CHECK.same("curveNamed of nothing", y.curveNamed(), -1);
        Check.type(y, "b");
        y.saveSnapshot(0);
        y.advance(1);
        y.restoreSnapshot(0);
        y.count(0);
        CHECK.same("nothing else empties it", y.append('c'), 2);
    }

    private static void curvesByName() {
        CellCycler x = new CellCycler();
        Check.type(x, "a");
        CHECK.same("of a new object", x.curveNamed(), -1);
        Check.load(x, "curve b 1 2;curve abcdef 1 2;curve bc 1 2;curve a 1 2");
        String[] names = {"b", "abcdef", "bc", "a"};
        for (int k = 0; k < 4; k++) {
            Check.type(x, names[k]);
            CHECK.same("curve " + names[k], x.curveNamed(), k);
        }
        List<String> others = new ArrayList<>(List.of("", " ", "c", "ab", "ba", "cb", "abcde", "bcdef", "abcdeg",
                "bbcdef", "abcdeff", "abcdefg", "aabcdef", "abcdefabcdef", "A", "B", " a", "a ", "a b", "a1", "1",
                "curve a", "a;", "\u0001a", "a\u0001", "\u0001b", "\u00ff", "aa", "aaaaaaaaa", "bcdefabcdef"));
        for (int k = 0; k < 256; k += 5) {
            others.add(k == 'a' || k == 'b' || k == 0 ? "zz" : "" + (char) k);
        }
        for (String name : others) {
            Check.type(x, name);
            CHECK.same("no curve '" + name + "'", x.curveNamed(), -1);
        }
        CHECK.same("a text with an error", Check.load(x, "curve q 1 2;curve"), -117);
        Check.type(x, "q");
        CHECK.same("brings no curve", x.curveNamed(), -1);
        Check.type(x, "bc");
        CHECK.same("and takes none", x.curveNamed(), 2);
        CHECK.same("a text without curves", Check.load(x, "ambient 1"), 0);
        Check.type(x, "bc");
        CHECK.same("takes them all", x.curveNamed(), -1);
    }

    private static void numbersOfErrors() {
        CellCycler x = new CellCycler();
        CHECK.same("before any load", x.loadError(), 0);
        String[] texts = {"ambient x", "ambient 501", "cell a", "program rest 1;program rest 1;program rest 1;"
                + "program rest 1;program", "ambient 1"};
        for (int number = 1; number <= 5; number++) {
            Check.load(x, texts[number - 1]);
            CHECK.same("of the latest load", x.loadError(), number % 5);
            x.append('a');
            x.curveNamed();
            x.setAmbient(3);
            x.saveSnapshot(0);
            CHECK.same("and of no other call", x.loadError(), number % 5);
        }
    }

    // ---- the numbers of a description

    private static void counts() {
        String curves = "";
        String cells = "";
        String programs = "";
        for (int n = 0; n <= 6; n++) {
            CellCycler x = Check.loaded("ambient 1" + curves + cells + programs);
            CHECK.same("channels", x.count(0), n == 0 ? 0 : n);
            CHECK.same("programs", x.count(1), Math.min(n, 4));
            CHECK.same("curves", x.count(2), Math.min(n, 4));
            if (n < 4) {
                curves += ";curve " + "abcd".charAt(n) + " 1 2";
                programs += ";program rest 1";
            }
            cells += ";cell a 100 1 0 1";
        }
    }

    private static void stepsOfPrograms() {
        CellCycler x = Check.loaded("program charge 5000 0 hold 0 5000 discharge 1 5000 rest 5000 repeat 3 50"
                + " rest 1 charge 1 5000 hold 5000 1 discharge 5000 0 repeat 0 1 rest 2 repeat 10 2;"
                + "program rest 3;program rest 4 rest 5;program discharge 6 7");
        int[][] due = {{0, 5000, 0}, {1, 0, 5000}, {2, 1, 5000}, {3, 5000, 0}, {4, 3, 50}, {3, 1, 0},
            {0, 1, 5000}, {1, 5000, 1}, {2, 5000, 0}, {4, 0, 1}, {3, 2, 0}, {4, 10, 2}};
        for (int step = 0; step < 12; step++) {
            for (int what = 0; what < 3; what++) {
                CHECK.same("step " + step + " " + what, x.stepValue(0, step, what), due[step][what]);
            }
        }
        for (int step : new int[] {-1, 12, 13, Integer.MIN_VALUE, Integer.MAX_VALUE}) {
            CHECK.same("no step " + step, x.stepValue(0, step, 0), -1);
        }
        CHECK.same("the only step", x.stepValue(1, 0, 1), 3);
        CHECK.same("no step of the program before", x.stepValue(1, -1, 0), -1);
        CHECK.same("no step of the program behind", x.stepValue(1, 1, 0), -1);
        CHECK.same("the last step", x.stepValue(2, 1, 1), 5);
        CHECK.same("behind it", x.stepValue(2, 2, 1), -1);
        CHECK.same("the last program", x.stepValue(3, 0, 2), 7);
        CHECK.fails("no program 4", "index", () -> x.stepValue(4, 0, 0));
    }

    public static void main(String[] args) {
        ranges();
        firstStepIsNoRepeat();
        howManyVoltages();
        howManySteps();
        howManyStatements();
        whatCannotStand();
        spaces();
        everyByte();
        names();
        theFirstErrorEndsIt();
        theLastOneCounts();
        withoutAStatement();
        anewByEachText();
        buffer();
        fullBuffer();
        whatEmptiesTheBuffer();
        curvesByName();
        numbersOfErrors();
        counts();
        stepsOfPrograms();
        CHECK.finish();
    }
}
