import java.util.Arrays;
import java.util.List;
import java.util.function.ToIntFunction;

/** A test for each sentence of "Terms" that names a boundary case, with answers that were worked out by hand. */
public final class PairedStepsTerms extends Checks {
    private static final String CELL_SIGNS = "abcdef";
    private static final String DIGITS = "0123456789";
    private static final String BEGINNINGS = CELL_SIGNS + "!#[?";

    public static void main(String[] args) {
        lengthOfUse();
        values();
        rowsOfStatements();
        grammar();
        numbers();
        spaces();
        nesting();
        failures();
        meaning();
        stepsOfRuns();
        endsOfRuns();
        keptValues();
        keptMarks();
        sideBySide();
        history();
        errors();
        finish();
    }

    // ---- "The public face"

    private static void lengthOfUse() {
        test("An object is used for at most 512 calls: the 512th is answered like the first", () -> {
            PairedSteps x = new PairedSteps();
            for (int call = 1; call <= 120; call++) {
                due("append as call " + call, x.append(call % 2 == 1 ? '#' : ';'), call);
            }
            for (int call = 121; call <= 510; call++) {
                due("read as call " + call, x.read(call % 2), 60);
            }
            due("count(2) as call 511", x.count(2), 5);
            due("run(1, 0, 0, 0) as call 512", x.run(1, 0, 0, 0), 60);
        });
        test("An object is used for at most 512 calls: 512 runs", () -> {
            PairedSteps x = with("[a#;]", "");
            for (int call = 13; call <= 512; call++) {
                due("agree(-9, 9, 0) as call " + call, call % 50 == 0 ? x.agree(-9, 9, 0) : x.agree(0, 0, 0),
                    call % 50 == 0 ? 190 : 1);
            }
        });
    }

    // ---- "Terms", the values of cells

    private static void tells(PairedSteps x, int first, int second, int want) {
        due("told(0, " + first + ", " + second + ", 0)", x.told(0, first, second, 0), want);
    }

    private static void values() {
        test("a sum beyond -999 to 999 becomes the nearest of these", () -> {
            PairedSteps x = with("c=a+b;!c;", "");
            int[][] sums = {{999, 0, 999}, {998, 1, 999}, {999, 1, 999}, {500, 500, 999}, {999, 999, 999},
                {-999, 0, -999}, {-998, -1, -999}, {-999, -1, -999}, {-500, -500, -999}, {-999, -999, -999},
                {999, -999, 0}, {998, 0, 998}, {-998, 0, -998}};
            for (int[] s : sums) {
                tells(x, s[0], s[1], s[2]);
            }
        });
        test("a difference beyond -999 to 999 becomes the nearest of these", () -> {
            PairedSteps x = with("c=a-b;!c;", "");
            int[][] differences = {{998, -1, 999}, {999, -1, 999}, {999, -999, 999}, {-998, 1, -999},
                {-999, 1, -999}, {-999, 999, -999}, {0, -999, 999}, {0, 999, -999}, {999, 999, 0}, {-999, -1, -998}};
            for (int[] d : differences) {
                tells(x, d[0], d[1], d[2]);
            }
        });
        test("a product beyond -999 to 999 becomes the nearest of these", () -> {
            PairedSteps x = with("c=a*b;!c;", "");
            int[][] products = {{333, 3, 999}, {499, 2, 998}, {500, 2, 999}, {-333, 3, -999}, {-499, 2, -998},
                {-500, 2, -999}, {999, 999, 999}, {-999, 999, -999}, {999, -999, -999}, {-999, -999, 999},
                {999, 1, 999}, {999, -1, -999}, {999, 0, 0}, {32, 32, 999}, {31, 32, 992}};
            for (int[] p : products) {
                tells(x, p[0], p[1], p[2]);
            }
        });
        test("what has become the nearest is the value of the cell, and is counted on with", () -> {
            tells(with("c=a+b;c=c-1;!c;", ""), 999, 999, 998);
            tells(with("c=a-b;c=c+1;!c;", ""), -999, 999, -998);
            tells(with("c=a*b;c=c-999;!c;", ""), 999, 999, 0);
            tells(with("a=a*a;a=a+a;a=0-a;a=a-1;!a;", ""), 32, 0, -999);
            PairedSteps x = with("a=a+b;#;", "");
            due("cell(0, 999, 7, 0, 0)", x.cell(0, 999, 7, 0, 0), 999);
            due("cell(0, 999, 7, -1, 0)", x.cell(0, 999, 7, -1, 0), 999);
        });
    }

    // ---- "Programs"

    private static void rowsOfStatements() {
        test("There are two programs, 0 and 1; each is empty at first", () -> {
            PairedSteps x = new PairedSteps();
            due("count(0)", x.count(0), 0);
            due("count(1)", x.count(1), 0);
            due("run(0, 1, 1, 0)", x.run(0, 1, 1, 0), 0);
            due("run(1, 1, 1, 0)", x.run(1, 1, 1, 0), 0);
            due("program(2, 0)", x.program(2, 0), INVALID);
        });
        test("A program has 6 cells, numbered from 0: a to f are the cells 0 to 5", () -> {
            PairedSteps x = with("a=11;b=12;c=13;d=14;e=15;f=16;", "");
            for (int cell = 0; cell <= 5; cell++) {
                due("cell(0, 0, 0, -1, " + cell + ")", x.cell(0, 0, 0, -1, cell), 11 + cell);
            }
            due("cell(0, 0, 0, -1, 6)", x.cell(0, 0, 0, -1, 6), INVALID);
        });
        test("a row of at most 60 statements: 60 are read, and all of them run", () -> {
            PairedSteps x = with(times("#;", 60), "");
            due("count(0)", x.count(0), 60);
            due("program(0, 3)", x.program(0, 3), 60);
            due("run(0, 0, 0, 0)", x.run(0, 0, 0, 0), 60);
            due("run(0, 0, 0, 3)", x.run(0, 0, 0, 3), 60);
        });
        test("program = { statement }: also none, in the text, in [ ], ahead of : and behind it", () -> {
            reads("", 0);
            reads("[a]", 1);
            reads("?a:.", 1);
            reads("?a:#;.", 2);
            reads("?a#;:.", 2);
        });
    }

    /** Tries each character behind a text: some end it, some go on so that more is missing, all others fail. */
    private static void after(String text, String ending, int statements, String going) {
        for (char sign = 1; sign <= 255; sign++) {
            int want = -1000 - text.length();
            if (ending.indexOf(sign) >= 0) {
                want = statements;
            } else if (going.indexOf(sign) >= 0) {
                want--;
            }
            due("read(0) of \"" + text + "\" and the character " + (int) sign,
                readText(new PairedSteps(), 0, text + sign), want);
        }
    }

    private static void grammar() {
        test("statement: these characters begin one, and no other", () -> after("", " ", 0, BEGINNINGS));
        test("statement: behind one comes the next", () -> after("#;", " ", 1, BEGINNINGS));
        test("statement: behind its cell comes =", () -> after("a", "", 0, " ="));
        test("term = cell | number: behind =", () -> after("a=", "", 0, " " + CELL_SIGNS + DIGITS));
        test("term = cell | number: behind the operator", () -> after("a=b+", "", 0, " " + CELL_SIGNS + DIGITS));
        test("operator = + | - | *: these, or ; are behind a term", () -> after("f=b", ";", 1, " +-*"));
        test("operator: only one in a statement", () -> after("a=b*c", ";", 1, " "));
        test("operator: only one in a statement, behind a number", () -> after("a=b-9", ";", 1, " " + DIGITS));
        test("cell = a to f: behind !", () -> after("!", "", 0, " " + CELL_SIGNS));
        test("! cell ;", () -> after("!f", ";", 1, " "));
        test("# ;", () -> after("#", ";", 1, " "));
        test("cell = a to f: behind [", () -> after("[", "", 0, " " + CELL_SIGNS));
        test("cell = a to f: behind ?", () -> after("?", "", 0, " " + CELL_SIGNS));
        test("[ cell program ]: only ] closes it", () -> after("[a", "]", 1, " " + BEGINNINGS));
        test("[ cell program ]: only ] closes it, behind a statement", () -> after("[a#;", "]", 2, " " + BEGINNINGS));
        test("? cell program : program .: only : parts it", () -> after("?a", "", 0, " :" + BEGINNINGS));
        test("? cell program : program .: only . closes it", () -> after("?a:", ".", 1, " " + BEGINNINGS));
        test("[ in ?: the inner one is closed first", () -> after("?a[b", "", 0, " ]" + BEGINNINGS));
        test("? in [: the inner one is closed first", () -> after("[a?b:", "", 0, " ." + BEGINNINGS));
        test("behind what is closed nothing closes once more", () -> after("[a]", " ", 1, BEGINNINGS));
    }

    private static void numbers() {
        test("A number is 1 to 3 digits: 1, 2 and 3 of them", () -> {
            PairedSteps x = with("a=1;!a;a=9;!a;a=10;!a;a=99;!a;a=100;!a;a=999;!a;a=907;!a;", "");
            int[] told = {1, 9, 10, 99, 100, 999, 907};
            for (int index = 0; index < told.length; index++) {
                due("told(0, 0, 0, " + index + ")", x.told(0, 0, 0, index), told[index]);
            }
        });
        test("A number is 1 to 3 digits: the fourth one fails", () -> {
            reads("a=1000;", -1005);
            reads("a=9999", -1005);
            reads("a=1+1000;", -1007);
            after("a=999", ";", 1, " +-*");
            after("a=b+100", ";", 1, " ");
        });
        test("A number is 1 to 3 digits: none is too few", () -> {
            reads("a=;", -1002);
            reads("a=+1;", -1002);
            reads("a=1+;", -1004);
            reads("a=-1;", -1002);
        });
        test("the first of several not 0: a 0 alone is a number, a digit behind it fails", () -> {
            reads("a=0;", 1);
            after("a=0", ";", 1, " +-*");
            after("a=b*0", ";", 1, " ");
            reads("a=007;", -1003);
            due("told", with("a=0;!a;", "").told(0, 5, 0, 0), 0);
        });
        test("the first of several not 0: a 0 as a later digit is fine", () -> {
            after("a=10", ";", 1, " +-*" + DIGITS);
            after("a=1", ";", 1, " +-*" + DIGITS);
            reads("a=100;", 1);
        });
    }

    private static void spaces() {
        test("Spaces may stand before, between and after all signs, letters and numbers", () -> {
            reads(" a = b ; ", 1);
            reads("  a  =  b  +  12  ;  ", 1);
            reads(" ! a ; ", 1);
            reads(" # ; ", 1);
            reads(" [ a ] ", 1);
            reads(" [ a # ; ] ", 2);
            reads(" ? a : . ", 1);
            reads(" ? a # ; : # ; . ", 3);
            reads("   ", 0);
        });
        test("Spaces: as many as the text has room for", () -> {
            reads(times(" ", 120), 0);
            reads(times(" ", 118) + "#;", 1);
            reads("#;" + times(" ", 118), 1);
            reads("#" + times(" ", 118) + ";", 1);
            reads("#" + times(" ", 119), -1120);
        });
        test("Spaces not within a number", () -> {
            reads("a=1 2;", -1004);
            reads("a=12 3;", -1005);
            reads("a=0 0;", -1004);
            reads("a=b+1  2;", -1007);
        });
        test("Spaces (code 32): no other character is one", () -> {
            for (char sign : new char[] {9, 10, 13, 31, 33, 95, 160}) {
                reads("#" + sign + ";", -1001);
                reads("#;" + (sign == 33 ? "]" : sign), -1002);
            }
        });
    }

    /** Opens a "[" or a "?" for each bit of a mix, the lowest one first. */
    private static String opened(int mix, int depth) {
        StringBuilder text = new StringBuilder();
        for (int level = 0; level < depth; level++) {
            text.append((mix >> level & 1) == 0 ? "[a" : "?a");
        }
        return text.toString();
    }

    private static String closed(int mix, int depth) {
        StringBuilder text = new StringBuilder();
        for (int level = depth - 1; level >= 0; level--) {
            text.append((mix >> level & 1) == 0 ? "]" : ":.");
        }
        return text.toString();
    }

    private static void nesting() {
        test("[ and ? are nested at most 5 deep together: 5 in each mix of them are read", () -> {
            for (int mix = 0; mix < 32; mix++) {
                reads(opened(mix, 5) + closed(mix, 5), 5);
                due("program(0, 6)", with(opened(mix, 5) + "#;" + closed(mix, 5), "").program(0, 6), 5);
            }
        });
        test("it fails at a sign that is nested too deep: a sixth [ or ? in each mix of five", () -> {
            for (int mix = 0; mix < 32; mix++) {
                reads(opened(mix, 5) + "[a]" + closed(mix, 5), -1010);
                reads(opened(mix, 5) + "?a:." + closed(mix, 5), -1010);
                reads(opened(mix, 5) + "#;  [", -1014);
            }
        });
        test("nested at most 5 deep: also behind a :", () -> {
            reads(times("?a:", 5) + times(".", 5), 5);
            reads(times("?a:", 5) + "[a]", -1015);
            reads(times("?a", 5) + ":?", -1011);
        });
        test("nested at most 5 deep: what is closed does not count", () -> {
            reads(times(times("[a", 5) + times("]", 5), 2), 10);
            reads(times("[a", 4) + times("[a]", 9) + times("]", 4), 13);
            reads(times("?a", 4) + "[a]?a:.:[a]?a:." + times(".", 1) + times(":.", 3), 8);
            reads(times("[a", 4) + "[a][a?", -1013);
        });
    }

    private static void failures() {
        test("A text has at most 120 characters: 120 are read, and no more can be typed", () -> {
            PairedSteps x = new PairedSteps();
            type(x, times("!a;", 40));
            due("append(32)", x.append(' '), FULL);
            due("read(0)", x.read(0), 40);
            reads(times("a=b+c;", 20), 20);
        });
        test("it fails at the first character that is not allowed where it stands: of several", () -> {
            reads("a=1;;;", -1004);
            reads("x=y;", -1000);
            reads("!a;a=1000;[[", -1008);
            reads("]]", -1000);
        });
        test("it fails at the first character that is not allowed: at the first place", () -> {
            reads(".", -1000);
            reads(times("g", 120), -1000);
            reads(";#;", -1000);
        });
        test("it fails at the first character that is not allowed: at the last place", () -> {
            reads(times("#;", 59) + "#!", -1119);
            reads(times("!a;", 39) + "!aa", -1119);
            reads(times("#;", 59) + " " + (char) 255, -1119);
        });
        test("the first character of a 61st statement: 60 fill the text, so that none can be typed", () -> {
            PairedSteps x = new PairedSteps();
            type(x, times("#;", 60));
            due("append('#')", x.append('#'), FULL);
            due("read(0)", x.read(0), 60);
        });
        test("the first character of a 61st statement: that of a 60th one is allowed, at the last places too", () -> {
            for (char sign : BEGINNINGS.toCharArray()) {
                reads(times("#;", 59) + sign, -1119);
                reads(times("#;", 59) + " " + sign, -1120);
            }
            reads(times("#;", 58) + "[a#;", -1120);
            reads(times("#;", 57) + "?a#;#;", -1120);
        });
        test("it fails at its length if it ends where something is missing: each part of a text", () -> {
            String text = "?a[b!c;]:#;a=b+12;.";
            for (int length = 1; length < text.length(); length++) {
                reads(text.substring(0, length), -1000 - length);
            }
            reads(text, 5);
        });
        test("it fails at its length: the spaces at its end belong to it", () -> {
            reads("[a   ", -1005);
            reads("a=7 ", -1004);
            reads("   #   ", -1007);
        });
        test("it fails at its length: also a text of 120 characters", () -> {
            reads(times("#;", 59) + " #", -1120);
            reads(times("#;", 58) + "a=10", -1120);
            reads("[a" + times("#;", 59), -1120);
        });
        test("The empty text is the empty program", () -> {
            PairedSteps x = with("#;#;", "");
            x.clearText();
            due("read(0)", x.read(0), 0);
            due("count(0)", x.count(0), 0);
            due("run(0, 0, 0, 0)", x.run(0, 0, 0, 0), 0);
            due("count(2)", x.count(2), 3);
        });
    }

    private static void meaning() {
        test("= sets a cell: also by itself", () -> {
            tells(with("a=a;!a;", ""), 7, 0, 7);
            tells(with("a=a+a;!a;", ""), 7, 0, 14);
            tells(with("a=a-a;!a;", ""), 7, 0, 0);
            tells(with("a=a*a;!a;", ""), 7, 0, 49);
            tells(with("a=b-a;!a;", ""), 7, 9, 2);
        });
        test("= with two numbers, the least and the greatest ones", () -> {
            tells(with("a=0-999;!a;", ""), 7, 0, -999);
            tells(with("a=999+0;!a;", ""), 7, 0, 999);
            tells(with("a=0*999;!a;", ""), 7, 0, 0);
        });
        test("[ runs as long as the cell is greater than 0: 1, 0 and -1", () -> {
            PairedSteps x = with("[a!a;a=a-1;]", "");
            due("run(0, 2, 0, 2)", x.run(0, 2, 0, 2), 2);
            due("run(0, 1, 0, 2)", x.run(0, 1, 0, 2), 1);
            due("run(0, 0, 0, 2)", x.run(0, 0, 0, 2), 0);
            due("run(0, -1, 0, 2)", x.run(0, -1, 0, 2), 0);
            due("run(0, -999, 0, 2)", x.run(0, -999, 0, 2), 0);
        });
        test("[ looks at the cell as a round begins: a round goes on when the cell falls to 0 in it", () -> {
            due("run(0, 5, 0, 2)", with("[aa=0;!b;]", "").run(0, 5, 0, 2), 1);
            due("run(0, 2, 0, 2)", with("[aa=0-a;!b;a=0-a;a=a-1;]", "").run(0, 2, 0, 2), 2);
        });
        test("? runs what is before : if the cell is greater than 0, and otherwise what is behind it: 1, 0, -1", () -> {
            PairedSteps x = with("?a!b;:!c;!c;.", "");
            due("run(0, 1, 7, 2)", x.run(0, 1, 7, 2), 1);
            due("told(0, 1, 7, 0)", x.told(0, 1, 7, 0), 7);
            due("run(0, 0, 7, 2)", x.run(0, 0, 7, 2), 2);
            due("told(0, 0, 7, 0)", x.told(0, 0, 7, 0), 0);
            due("run(0, -1, 7, 2)", x.run(0, -1, 7, 2), 2);
        });
        test("? runs one of both: also if its cell changes in it", () -> {
            due("run(0, 1, 0, 2)", with("?aa=0;!c;:!b;!b;.", "").run(0, 1, 0, 2), 1);
            due("run(0, 0, 0, 2)", with("?a!c;!c;:a=1;!b;.", "").run(0, 0, 0, 2), 1);
        });
        test("? with a part that is empty runs nothing", () -> {
            PairedSteps x = with("?a:!b;.!c;", "?a!b;:.!c;");
            due("run(0, 1, 0, 2)", x.run(0, 1, 0, 2), 1);
            due("run(0, 0, 0, 2)", x.run(0, 0, 0, 2), 2);
            due("run(1, 1, 0, 2)", x.run(1, 1, 0, 2), 2);
            due("run(1, 0, 0, 2)", x.run(1, 0, 0, 2), 1);
        });
    }

    // ---- "Runs"

    private static void stepsOfRuns() {
        test("A run begins with an input: the cell 0 has the first number, the cell 1 the second, the others 0", () -> {
            PairedSteps x = new PairedSteps();
            int[] cells = {-999, 999, 0, 0, 0, 0};
            for (int cell = 0; cell <= 5; cell++) {
                due("cell(0, -999, 999, -1, " + cell + ")", x.cell(0, -999, 999, -1, cell), cells[cell]);
            }
        });
        test("A run begins with an input: nothing is left of the run before it", () -> {
            PairedSteps x = with("c=c+1;!c;d=d+a;#;[f]", "f=f+1;!f;#;");
            for (int time = 0; time < 3; time++) {
                tells(x, 5, 0, 1);
                due("cell(0, 5, 0, 0, 3)", x.cell(0, 5, 0, 0, 3), 5);
                due("run(0, 5, 0, 2)", x.run(0, 5, 0, 2), 1);
                due("told(1, 5, 0, 0)", x.told(1, 5, 0, 0), 1);
            }
        });
        test("Each statement that is run is a step: = ! # each time", () -> {
            due("=", with("a=1;", "").run(0, 0, 0, 0), 1);
            due("!", with("!a;", "").run(0, 0, 0, 0), 1);
            due("#", with("#;", "").run(0, 0, 0, 0), 1);
        });
        test("[ each time that its cell is looked at: one time more than the rounds", () -> {
            PairedSteps x = with("[aa=a-1;]", "");
            due("run(0, -1, 0, 0)", x.run(0, -1, 0, 0), 1);
            due("run(0, 0, 0, 0)", x.run(0, 0, 0, 0), 1);
            due("run(0, 1, 0, 0)", x.run(0, 1, 0, 0), 3);
            due("run(0, 2, 0, 0)", x.run(0, 2, 0, 0), 5);
        });
        test("? each time, and neither : nor . is a step", () -> {
            PairedSteps x = with("?a#;:#;#;.", "?a:.");
            due("run(0, 1, 0, 0)", x.run(0, 1, 0, 0), 2);
            due("run(0, 0, 0, 0)", x.run(0, 0, 0, 0), 3);
            due("run(1, 1, 0, 0)", x.run(1, 1, 0, 0), 1);
            due("run(1, 0, 0, 0)", x.run(1, 0, 0, 0), 1);
        });
        test("a run of the empty program makes no step", () -> {
            PairedSteps x = new PairedSteps();
            due("run(0, 9, 9, 0)", x.run(0, 9, 9, 0), 0);
            due("run(0, 9, 9, 1)", x.run(0, 9, 9, 1), 0);
        });
    }

    /** What a run answers, by what is asked. */
    private static void runs(PairedSteps x, int first, int second, int steps, int cutOff, int values, int marks) {
        int[] wants = {steps, cutOff, values, marks};
        for (int what = 0; what <= 3; what++) {
            due("run(0, " + first + ", " + second + ", " + what + ")", x.run(0, first, second, what), wants[what]);
        }
    }

    // The loop of 3 steps a round makes 400 steps by 133: 133 rounds, and a last look.
    private static void endsOfRuns() {
        test("A run ends with the end of the program: with 400 steps too", () ->
            runs(with("[aa=a-1;#;]", ""), 133, 0, 400, 0, 0, 133));
        test("A run ends with the end of the program: with 399 steps", () ->
            runs(with("#;#;[aa=a-1;]", ""), 198, 0, 399, 0, 0, 2));
        test("when it has made 400 steps and would make one more, it is cut off: a loop that goes on", () -> {
            runs(with("[aa=a-1;#;]", ""), 134, 0, 400, 1, 0, 133);
            runs(with("[a]", ""), 1, 0, 400, 1, 0, 0);
        });
        test("one more than 400 would be a look that ends the loop", () ->
            runs(with("#;[a#;a=a-1;]", ""), 133, 0, 400, 1, 0, 134));
        test("one more than 400 would be a !: it is not told", () ->
            runs(with("[aa=a-1;#;]!b;", ""), 133, 0, 400, 1, 0, 133));
        test("one more than 400 would be a #: it is not counted", () ->
            runs(with("[aa=a-1;#;]#;", ""), 133, 0, 400, 1, 0, 133));
        test("one more than 400 would be a =: it does not set its cell", () -> {
            PairedSteps x = with("[aa=a-1;#;]b=7;", "");
            runs(x, 133, 5, 400, 1, 0, 133);
            due("cell(0, 133, 5, -1, 1)", x.cell(0, 133, 5, -1, 1), 5);
        });
        test("one more than 400 would be a [: no round of it begins", () -> {
            PairedSteps x = with("[aa=a-1;#;][b]", "");
            runs(x, 133, 1, 400, 1, 0, 133);
            due("run(0, 133, 1, 4)", x.run(0, 133, 1, 4), 133);
            runs(x, 133, 0, 400, 1, 0, 133);
        });
        test("one more than 400 would be a ?, also with nothing in it", () ->
            runs(with("[aa=a-1;#;]?b:.", ""), 133, 0, 400, 1, 0, 133));
        test("the 400th step is a !, and the last one: it is told", () -> {
            PairedSteps x = with("#;#;[aa=a-1;#;]!b;", "");
            runs(x, 132, 8, 400, 0, 1, 134);
            due("told(0, 132, 8, 0)", x.told(0, 132, 8, 0), 8);
        });
        test("the 400th step is a ? with nothing in the part that comes: the run ends", () -> {
            PairedSteps x = with("#;#;[aa=a-1;#;]?b!b;:.", "");
            runs(x, 132, 0, 400, 0, 0, 134);
            runs(x, 132, 1, 400, 1, 0, 134);
        });
        test("the 400th step is the last one of a part of ?: the run ends behind it", () -> {
            PairedSteps x = with("#;[aa=a-1;#;]?b!b;:#;.", "");
            runs(x, 132, 1, 400, 0, 1, 133);
            runs(x, 132, 0, 400, 0, 0, 134);
        });
        test("the 400th step is the last one of a round: the loop would look once more", () -> {
            PairedSteps x = with("[a#;]", "");
            runs(x, 1, 0, 400, 1, 0, 200);
            due("run(0, 1, 0, 4)", x.run(0, 1, 0, 4), 200);
        });
        test("all is as it was behind the 400th step: the cells", () -> {
            PairedSteps x = with("[ab=b+1;c=b;d=c;]", "");
            due("cell(0, 1, 0, -1, 1)", x.cell(0, 1, 0, -1, 1), 100);
            due("cell(0, 1, 0, -1, 2)", x.cell(0, 1, 0, -1, 2), 100);
            due("cell(0, 1, 0, -1, 3)", x.cell(0, 1, 0, -1, 3), 100);
            PairedSteps y = with("#;[ab=b+1;c=b;d=c;]", "");
            due("cell(0, 1, 0, -1, 2)", y.cell(0, 1, 0, -1, 2), 100);
            due("cell(0, 1, 0, -1, 3)", y.cell(0, 1, 0, -1, 3), 99);
        });
        test("all is as it was behind the 400th step: a round that the 400th step began", () -> {
            PairedSteps x = with("#;[a#;]", "");
            due("run(0, 1, 0, 3)", x.run(0, 1, 0, 3), 200);
            due("run(0, 1, 0, 4)", x.run(0, 1, 0, 4), 200);
            due("run(0, 1, 0, 5)", x.run(0, 1, 0, 5), 200);
        });
        test("as long as the cell is greater than 0 as a round begins: the look is the 400th step", () -> {
            PairedSteps x = with("[aa=a-1;#;]", "");
            for (int what = 4; what <= 5; what++) {
                due("run(0, 133, 0, " + what + "): the cell is 0 then", x.run(0, 133, 0, what), 133);
                due("run(0, 134, 0, " + what + "): the cell is 1 then", x.run(0, 134, 0, what), 134);
            }
        });
    }

    private static void keptValues() {
        test("What is put out by a run is the row of the values in their order: of no value", () -> {
            due("told(0, 0, 0, 0)", with("#;a=1;", "").told(0, 0, 0, 0), NONE);
            due("run(0, 0, 0, 2)", with("#;a=1;", "").run(0, 0, 0, 2), 0);
        });
        test("at most the first 40 of the values are kept: 39, 40 and 41 of them", () -> {
            PairedSteps x = with("[a!a;a=a-1;]", "");
            due("told(0, 39, 0, 38)", x.told(0, 39, 0, 38), 1);
            due("told(0, 39, 0, 39)", x.told(0, 39, 0, 39), NONE);
            due("told(0, 40, 0, 39)", x.told(0, 40, 0, 39), 1);
            due("told(0, 41, 0, 0)", x.told(0, 41, 0, 0), 41);
            due("told(0, 41, 0, 39)", x.told(0, 41, 0, 39), 2);
            due("told(0, 41, 0, 40)", x.told(0, 41, 0, 40), NONE);
        });
    }

    private static void keptMarks() {
        test("the marks of a run are numbered from 0", () -> {
            PairedSteps x = with("a=1;#;a=2;#;", "");
            due("cell(0, 9, 0, 0, 0)", x.cell(0, 9, 0, 0, 0), 1);
            due("cell(0, 9, 0, 1, 0)", x.cell(0, 9, 0, 1, 0), 2);
            due("cell(0, 9, 0, 2, 0)", x.cell(0, 9, 0, 2, 0), NONE);
        });
        test("at most the first 40 of the marks are kept: 39, 40 and 41 of them", () -> {
            PairedSteps x = with("[a#;a=a-1;]", "");
            due("cell(0, 39, 0, 38, 0)", x.cell(0, 39, 0, 38, 0), 1);
            due("cell(0, 39, 0, 39, 0)", x.cell(0, 39, 0, 39, 0), NONE);
            due("cell(0, 40, 0, 39, 0)", x.cell(0, 40, 0, 39, 0), 1);
            due("cell(0, 41, 0, 0, 0)", x.cell(0, 41, 0, 0, 0), 41);
            due("cell(0, 41, 0, 39, 0)", x.cell(0, 41, 0, 39, 0), 2);
            due("cell(0, 41, 0, 40, 0)", x.cell(0, 41, 0, 40, 0), NONE);
        });
        test("the marks are kept with the cells as they are then", () -> {
            PairedSteps x = with("f=1;#;f=9;b=0;#;f=3;", "");
            due("cell(0, 0, 8, 0, 5)", x.cell(0, 0, 8, 0, 5), 1);
            due("cell(0, 0, 8, 0, 1)", x.cell(0, 0, 8, 0, 1), 8);
            due("cell(0, 0, 8, 1, 5)", x.cell(0, 0, 8, 1, 5), 9);
            due("cell(0, 0, 8, 1, 1)", x.cell(0, 0, 8, 1, 1), 0);
            due("cell(0, 0, 8, -1, 5)", x.cell(0, 0, 8, -1, 5), 3);
        });
    }

    // ---- "Side by side"

    private static void sideBySide() {
        test("the kept marks of both programs with the same numbers are paired: as many as the one with less has", () -> {
            PairedSteps x = with("[a#;a=a-1;]", "[b#;b=b-1;]");
            due("pairs(3, 2, 0)", x.pairs(3, 2, 0), 2);
            due("pairs(2, 3, 0)", x.pairs(2, 3, 0), 2);
            due("pairs(1, 1, 0)", x.pairs(1, 1, 0), 1);
            due("pairs(0, 5, 0)", x.pairs(0, 5, 0), 0);
            due("pairs(5, 0, 0)", x.pairs(5, 0, 0), 0);
            due("pairs(-5, -5, 0)", x.pairs(-5, -5, 0), 0);
        });
        test("so there are at most 40 pairs", () -> {
            PairedSteps x = with("[a#;a=a-1;]", "[b#;b=b-1;]");
            due("pairs(39, 41, 0)", x.pairs(39, 41, 0), 39);
            due("pairs(40, 40, 0)", x.pairs(40, 40, 0), 40);
            due("pairs(41, 41, 0)", x.pairs(41, 41, 0), 40);
            due("pairs(133, 133, 0)", x.pairs(133, 133, 0), 40);
        });
        test("at most 40 pairs: what comes with the mark 40 changes nothing", () -> {
            String loop = "[a#;a=a-1;]";
            due("equal(39, 0, 2)", with(loop + "c=1;#;", loop + "#;").equal(39, 0, 2), 0);
            due("equal(40, 0, 2)", with(loop + "c=1;#;", loop + "#;").equal(40, 0, 2), 62);
            due("pairs(40, 0, 1)", with(loop + "c=1;#;", loop + "#;").pairs(40, 0, 1), 0);
            due("pairs(39, 0, 1)", with(loop + "c=1;#;", loop + "#;").pairs(39, 0, 1), 1);
        });
        test("cells are equal at a pair if their values are the same there: next to each other they are not", () -> {
            PairedSteps x = with("#;", "#;");
            due("equal(999, 998, 0)", x.equal(999, 998, 0), 1);
            due("equal(999, 999, 0)", x.equal(999, 999, 0), 3);
            due("equal(-999, 999, 0)", x.equal(-999, 999, 0), 1);
            due("equal(0, 1, 2)", x.equal(0, 1, 2), 61);
        });
        test("The lead of a pair: the mark is not counted", () -> {
            due("pairs(0, 0, 2)", with("#;", "#;").pairs(0, 0, 2), 0);
            due("pairs(0, 0, 2)", with("c=1;#;", "#;").pairs(0, 0, 2), 1);
            due("pairs(0, 0, 2)", with("#;#;", "#;c=1;#;").pairs(0, 0, 2), -1);
        });
        test("The lead of a pair: less that number of the program 1, so it may be below 0", () -> {
            PairedSteps x = with("[aa=a-1;]#;", "[bb=b-1;]#;");
            due("pairs(199, 0, 2)", x.pairs(199, 0, 2), 398);
            due("pairs(0, 199, 2)", x.pairs(0, 199, 2), -398);
            due("pairs(0, 199, 1)", x.pairs(0, 199, 1), 398);
            due("pairs(7, 7, 2)", x.pairs(7, 7, 2), 0);
        });
        test("The lead of a pair: a mark as the 400th step has one, as the 401st it is none", () -> {
            PairedSteps x = with("[aa=a-1;]#;", "#;");
            due("pairs(199, 0, 2)", x.pairs(199, 0, 2), 399);
            due("pairs(200, 0, 2)", x.pairs(200, 0, 2), NONE);
        });
        test("The programs agree if neither run is cut off", () -> {
            due("agree(1, 1, 0)", with("!b;[a]", "!b;").agree(1, 1, 0), 0);
            due("agree(1, 1, 0)", with("!b;", "!b;[a]").agree(1, 1, 0), 0);
            due("agree(1, 1, 0)", with("!b;[a]", "!b;[a]").agree(1, 1, 0), 0);
            due("agree(0, 0, 0)", with("!b;[a]", "!b;[a]").agree(0, 0, 0), 1);
        });
        test("The programs agree if neither run is cut off: 400 steps are none, one more is", () -> {
            String loop = "b=133;[bb=b-1;#;]";
            due("agree(0, 0, 0)", with(loop, "").agree(0, 0, 0), 0);
            due("agree(0, 0, 0)", with("b=132;[bb=b-1;#;]#;", "").agree(0, 0, 0), 1);
            due("agree(0, 0, 0)", with("b=132;[bb=b-1;#;]#;#;", "").agree(0, 0, 0), 1);
            due("agree(0, 0, 0)", with("b=132;[bb=b-1;#;]#;#;#;", "").agree(0, 0, 0), 0);
        });
        test("The programs agree if both put out the same: also nothing", () -> {
            due("agree(0, 0, 0)", with("", "#;a=1;").agree(0, 0, 0), 1);
            due("agree(0, 0, 0)", with("", "!c;").agree(0, 0, 0), 0);
            due("agree(0, 0, 0)", with("!c;", "").agree(0, 0, 0), 0);
        });
        test("put out the same: the first 40 values, be the 41st another one", () -> {
            due("the 41st", with("a=40;[a!a;a=a-1;]!c;", "a=40;[a!a;a=a-1;]c=1;!c;").agree(0, 0, 0), 1);
            due("the 40th", with("a=39;[a!a;a=a-1;]!c;", "a=39;[a!a;a=a-1;]c=1;!c;").agree(0, 0, 0), 0);
        });
        test("put out the same: the number of all values, also above 40", () -> {
            String loop = "a=40;[a!a;a=a-1;]";
            due("40 and 41", with(loop, loop + "!c;").agree(0, 0, 0), 0);
            due("41 and 42", with(loop + "!c;", loop + "!c;!c;").agree(0, 0, 0), 0);
            due("41 and 41", with(loop + "!c;", loop + "!c;").agree(0, 0, 0), 1);
        });
        test("The first difference: the first value that one puts out and the other does not", () -> {
            due("difference(0, 0)", with("!c;", "").difference(0, 0), 0);
            due("difference(0, 0)", with("", "!c;").difference(0, 0), 0);
            due("difference(0, 0)", with("!c;!c;", "!c;").difference(0, 0), 1);
            due("difference(0, 0)", with("!c;", "!c;!c;!a;").difference(0, 0), 1);
        });
        test("The first difference: the first value that is another one", () -> {
            due("difference(1, 2)", with("!a;!b;!a;", "!a;!a;!b;").difference(1, 2), 1);
            due("difference(1, 2)", with("!a;", "!b;!a;").difference(1, 2), 0);
            due("difference(2, 2)", with("!a;", "!b;!a;").difference(2, 2), 1);
        });
    }

    // ---- "Undo"

    private static void history() {
        test("A history of at most 5 states is kept: 4, 5 and 6 actions", () -> {
            PairedSteps x = new PairedSteps();
            for (int action = 1; action <= 7; action++) {
                x.copy();
                due("count(2) behind " + action + " actions", x.count(2), Math.min(action, 5));
            }
        });
        test("a state is both programs, and not the text", () -> {
            PairedSteps x = with("#;", "!a;!a;");
            type(x, "[a]#;#;");
            x.read(0);
            x.exchange();
            due("undo()", x.undo(), 3);
            due("undo()", x.undo(), 2);
            due("program(0, 3)", x.program(0, 3), 1);
            due("program(1, 2)", x.program(1, 2), 2);
            due("count(0)", x.count(0), 1);
            due("count(1)", x.count(1), 2);
            due("count(3)", x.count(3), 7);
        });
        test("Every successful call of an action records the state before it: of each of them", () -> {
            PairedSteps x = new PairedSteps();
            type(x, "#;#;");
            x.read(1);
            due("count(2) behind read", x.count(2), 1);
            x.exchange();
            due("count(2) behind exchange", x.count(2), 2);
            x.cut(0, 0);
            due("count(2) behind cut", x.count(2), 3);
            x.copy();
            due("count(2) behind copy", x.count(2), 4);
            due("undo()", x.undo(), 3);
            due("count(1) ahead of copy", x.count(1), 0);
            due("undo()", x.undo(), 2);
            due("count(0) ahead of cut", x.count(0), 2);
            due("undo()", x.undo(), 1);
            due("count(0) ahead of exchange", x.count(0), 0);
            due("count(1) ahead of exchange", x.count(1), 2);
            due("undo()", x.undo(), 0);
            due("count(1) ahead of read", x.count(1), 0);
        });
        test("records the state, also if nothing changes by it", () -> {
            PairedSteps x = new PairedSteps();
            x.read(0);
            due("count(2) behind read of an empty text", x.count(2), 1);
            x.copy();
            due("count(2) behind copy of an empty program", x.count(2), 2);
            x.exchange();
            due("count(2) behind exchange of equal programs", x.count(2), 3);
            PairedSteps y = with("#;", "#;");
            y.read(1);
            due("count(2) behind read of the same text", y.count(2), 3);
            y.copy();
            due("count(2) behind copy of the same program", y.count(2), 4);
        });
        test("calls that are no action, or not successful, record nothing", () -> {
            PairedSteps x = with("#;", "#;");
            x.append('!');
            x.read(0);
            x.read(2);
            x.cut(0, 1);
            x.cut(2, 0);
            x.clearText();
            x.run(0, 0, 0, 0);
            x.agree(0, 3, 0);
            x.idle(0);
            due("count(2)", x.count(2), 2);
        });
        test("when a sixth state is recorded, the oldest one is dropped", () -> {
            PairedSteps x = new PairedSteps();
            for (int length = 1; length <= 6; length++) {
                readText(x, 0, times("#;", length));
            }
            for (int left = 4; left >= 0; left--) {
                due("undo()", x.undo(), left);
                due("count(0)", x.count(0), left + 1);
            }
            due("undo()", x.undo(), STATE);
            due("count(0)", x.count(0), 1);
        });
        test("the oldest one is dropped: with each further one", () -> {
            PairedSteps x = new PairedSteps();
            for (int length = 1; length <= 14; length++) {
                readText(x, 1, times("#;", length));
            }
            for (int left = 4; left >= 0; left--) {
                due("undo()", x.undo(), left);
                due("count(1)", x.count(1), left + 9);
            }
        });
        test("undo() removes the latest state and restores it: a second undo goes further back", () -> {
            PairedSteps x = with("#;", "!a;");
            due("undo()", x.undo(), 1);
            due("count(1)", x.count(1), 0);
            due("count(0)", x.count(0), 1);
            due("undo()", x.undo(), 0);
            due("count(0)", x.count(0), 0);
        });
        test("undo() restores a state: what runs of it answer too", () -> {
            PairedSteps x = with("?a[b!b;b=b-1;]:!c;.#;", "");
            x.cut(0, 1);
            due("run(0, 1, 3, 0)", x.run(0, 1, 3, 0), 2);
            x.undo();
            due("run(0, 1, 3, 0)", x.run(0, 1, 3, 0), 12);
            due("run(0, 1, 3, 2)", x.run(0, 1, 3, 2), 3);
            due("told(0, 0, 3, 0)", x.told(0, 0, 3, 0), 0);
        });
        test("undo() ahead of a full history makes room for one state", () -> {
            PairedSteps x = new PairedSteps();
            for (int action = 0; action < 6; action++) {
                x.copy();
            }
            x.undo();
            x.undo();
            x.copy();
            due("count(2)", x.count(2), 4);
            x.copy();
            x.copy();
            due("count(2)", x.count(2), 5);
        });
    }

    // ---- "Errors"

    /** What can be seen of an object. */
    private static int[] seen(PairedSteps x) {
        int[] answers = new int[4 + 2 * 8 + 2 * 6 + 2];
        int at = 0;
        for (int what = 0; what <= 3; what++) {
            answers[at++] = x.count(what);
        }
        for (int program = 0; program <= 1; program++) {
            for (int what = 0; what <= 7; what++) {
                answers[at++] = x.program(program, what);
            }
            for (int what = 0; what <= 5; what++) {
                answers[at++] = x.run(program, 3, 2, what);
            }
        }
        answers[at++] = x.equal(3, 2, 0);
        answers[at++] = x.idle(0);
        return answers;
    }

    /** An object with a text that fails, and both programs and its history in use. */
    private static PairedSteps inUse() {
        PairedSteps x = with("a=1;!a;[b#;b=b-1;]", "?a!a;:!b;.#;");
        type(x, "#;!");
        return x;
    }

    private static void staysAsItIs(String call, PairedSteps x, ToIntFunction<PairedSteps> refused, int want) {
        int[] before = seen(x);
        due(call, refused.applyAsInt(x), want);
        if (!Arrays.equals(before, seen(x))) {
            due(call + " changed what can be seen", 1, 0);
        }
        x.append('x');
        int states = x.count(2);
        for (int left = states - 1; left >= 0; left--) {
            due("undo() behind " + call, x.undo(), left);
        }
        due("count(0) at the start, behind " + call, x.count(0), 0);
    }

    private static void errors() {
        test("A call that returns an error code changes nothing: INVALID_ARGUMENT", () -> {
            List<ToIntFunction<PairedSteps>> calls = List.of(x -> x.append(0), x -> x.append(256), x -> x.read(2),
                x -> x.read(-1), x -> x.cut(0, 5), x -> x.cut(0, -1), x -> x.cut(2, 0), x -> x.cut(1, 4),
                x -> x.count(4), x -> x.program(0, 8), x -> x.run(0, 1000, 0, 0), x -> x.told(0, 0, 0, -1),
                x -> x.cell(0, 0, 0, -2, 0), x -> x.pairs(0, 0, 4), x -> x.equal(0, 0, 6),
                x -> x.difference(0, -1000), x -> x.agree(1, 0, 0), x -> x.always(6), x -> x.idle(2));
            for (int call = 0; call < calls.size(); call++) {
                staysAsItIs("call " + call, inUse(), calls.get(call), INVALID);
            }
        });
        test("A call that returns an error code changes nothing: a text that fails", () -> {
            staysAsItIs("read(0)", inUse(), x -> x.read(0), -1003);
            staysAsItIs("read(1)", inUse(), x -> x.read(1), -1003);
            PairedSteps y = with("a=1;!a;[b#;b=b-1;]", "#;");
            type(y, "[a[b[c[d[e#;a=999;?");
            staysAsItIs("read(0)", y, x -> x.read(0), -1018);
        });
        test("A call that returns an error code changes nothing: CAPACITY_EXCEEDED", () -> {
            PairedSteps x = with("#;", "!a;");
            type(x, times("#;", 60));
            staysAsItIs("append(97)", x, full -> full.append(97), FULL);
            due("clearText()", x.clearText(), 120);
        });
        test("A call that returns an error code changes nothing: ILLEGAL_STATE", () -> {
            PairedSteps x = new PairedSteps();
            for (int action = 0; action < 6; action++) {
                readText(x, action % 2, times("#;", action + 1));
            }
            for (int action = 0; action < 5; action++) {
                x.undo();
            }
            int[] before = seen(x);
            due("undo()", x.undo(), STATE);
            due("undo()", x.undo(), STATE);
            due("changed", Arrays.equals(before, seen(x)) ? 0 : 1, 0);
            due("count(0)", x.count(0), 1);
        });
        test("If several error conditions apply, the first one of the description: append", () -> {
            PairedSteps x = new PairedSteps();
            type(x, times(" ", 120));
            due("append(0)", x.append(0), INVALID);
            due("append(256)", x.append(256), INVALID);
            due("append(255)", x.append(255), FULL);
        });
        test("If several error conditions apply, the first one of the description: read", () -> {
            PairedSteps x = new PairedSteps();
            type(x, "]");
            due("read(2)", x.read(2), INVALID);
            due("read(-1)", x.read(-1), INVALID);
            due("read(1)", x.read(1), -1000);
        });
        test("NONE only if no error condition applies", () -> {
            PairedSteps x = new PairedSteps();
            due("told(2, 0, 0, 0)", x.told(2, 0, 0, 0), INVALID);
            due("told(0, 1000, 0, 0)", x.told(0, 1000, 0, 0), INVALID);
            due("cell(0, 0, 0, 0, 6)", x.cell(0, 0, 0, 0, 6), INVALID);
            due("cell(2, 0, 0, 0, 0)", x.cell(2, 0, 0, 0, 0), INVALID);
            due("pairs(1000, 0, 1)", x.pairs(1000, 0, 1), INVALID);
            due("pairs(0, -1000, 2)", x.pairs(0, -1000, 2), INVALID);
            due("difference(0, 1000)", x.difference(0, 1000), INVALID);
            due("agree(-10, 0, 1)", x.agree(-10, 0, 1), INVALID);
            due("agree(1, 0, 2)", x.agree(1, 0, 2), INVALID);
            due("idle(2)", x.idle(2), INVALID);
        });
        test("NONE is no error, and changes nothing", () -> {
            PairedSteps x = with("!a;", "!a;");
            int[] before = seen(x);
            due("told", x.told(0, 0, 0, 1), NONE);
            due("cell", x.cell(0, 0, 0, 0, 0), NONE);
            due("pairs", x.pairs(0, 0, 1), NONE);
            due("difference", x.difference(0, 0), NONE);
            due("agree", x.agree(0, 3, 1), NONE);
            due("idle", x.idle(0), NONE);
            due("changed", Arrays.equals(before, seen(x)) ? 0 : 1, 0);
        });
        test("The constants", () -> {
            due("INVALID_ARGUMENT", PairedSteps.INVALID_ARGUMENT, -10001);
            due("ILLEGAL_STATE", PairedSteps.ILLEGAL_STATE, -10002);
            due("CAPACITY_EXCEEDED", PairedSteps.CAPACITY_EXCEEDED, -10003);
            due("NONE", PairedSteps.NONE, -10009);
        });
    }
}
