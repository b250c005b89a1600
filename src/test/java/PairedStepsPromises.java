/** The promises of the document one by one, with answers that were worked out by hand. */
public final class PairedStepsPromises extends Checks {
    public static void main(String[] args) {
        test("Promise 1: new object", PairedStepsPromises::newObject);
        test("Promise 2: append", PairedStepsPromises::append);
        test("Promise 3: clear text", PairedStepsPromises::clearText);
        test("Promise 4: read statements", PairedStepsPromises::readStatements);
        test("Promise 4: read spaces", PairedStepsPromises::readSpaces);
        test("Promise 4: read numbers", PairedStepsPromises::readNumbers);
        test("Promise 4: read failures", PairedStepsPromises::readFailures);
        test("Promise 4: read depth", PairedStepsPromises::readDepth);
        test("Promise 4: read as action", PairedStepsPromises::readAsAction);
        test("Promise 5: copy program", PairedStepsPromises::copyProgram);
        test("Promise 6: exchange programs", PairedStepsPromises::exchangePrograms);
        test("Promise 7: cut statements", PairedStepsPromises::cutStatements);
        test("Promise 8: undo states", PairedStepsPromises::undoStates);
        test("Promise 9: count numbers", PairedStepsPromises::countNumbers);
        test("Promise 10: program properties", PairedStepsPromises::programProperties);
        test("Promise 11: run steps", PairedStepsPromises::runSteps);
        test("Promise 11: run rounds", PairedStepsPromises::runRounds);
        test("Promise 11: run values", PairedStepsPromises::runValues);
        test("Promise 12: told values", PairedStepsPromises::toldValues);
        test("Promise 13: cells at marks", PairedStepsPromises::cellsAtMarks);
        test("Promise 14: pairs of marks", PairedStepsPromises::pairsOfMarks);
        test("Promise 15: equal cells", PairedStepsPromises::equalCells);
        test("Promise 16: first differences", PairedStepsPromises::firstDifferences);
        test("Promise 17: agreement", PairedStepsPromises::agreement);
        test("Promise 18: always equal", PairedStepsPromises::alwaysEqual);
        test("Promise 19: idle statements", PairedStepsPromises::idleStatements);
        finish();
    }

    // ---- Promise 1

    private static void newObject() {
        PairedSteps x = new PairedSteps();
        for (int what = 0; what <= 3; what++) {
            due("new count " + what, x.count(what), 0);
        }
        for (int what = 0; what <= 7; what++) {
            due("new program 0 " + what, x.program(0, what), 0);
            due("new program 1 " + what, x.program(1, what), 0);
        }
        due("new undo", x.undo(), STATE);
        due("new clearText", x.clearText(), 0);
        due("new run", x.run(1, 7, 8, 0), 0);
        due("new cell", x.cell(1, 7, 8, -1, 0), 7);
        due("new objects share nothing", with("a=1;", "").count(0), 1);
        due("new count", x.count(0), 0);
    }

    // ---- Promise 2

    private static void append() {
        PairedSteps x = new PairedSteps();
        due("append 0", x.append(0), INVALID);
        due("append 256", x.append(256), INVALID);
        due("append -1", x.append(-1), INVALID);
        due("append least", x.append(Integer.MIN_VALUE), INVALID);
        due("append most", x.append(Integer.MAX_VALUE), INVALID);
        due("append 65536 + 97", x.append(65536 + 97), INVALID);
        due("count 3", x.count(3), 0);
        due("append 1", x.append(1), 1);
        due("append 255", x.append(255), 2);
        for (int length = 3; length <= 120; length++) {
            due("append " + length, x.append(32), length);
        }
        due("append at 120", x.append(32), FULL);
        due("append 0 at 120", x.append(0), INVALID);
        due("append 256 at 120", x.append(256), INVALID);
        due("count 3 at 120", x.count(3), 120);
        due("count 2: append is no action", x.count(2), 0);
        due("read: the first character is kept", x.read(0), -1000);
    }

    // ---- Promise 3

    private static void clearText() {
        PairedSteps x = new PairedSteps();
        readText(x, 0, "a=1;#;");
        due("clearText", x.clearText(), 6);
        due("clearText again", x.clearText(), 0);
        due("count 3", x.count(3), 0);
        due("programs stay", x.count(0), 2);
        due("no action", x.count(2), 1);
        due("append behind clearText", x.append('#'), 1);
        x.append(';');
        due("read what is new alone", x.read(0), 1);
        type(x, times("#;", 60));
        due("clearText full", x.clearText(), 120);
        due("append then", x.append('a'), 1);
    }

    // ---- Promise 4

    private static void readStatements() {
        reads("", 0);
        reads("a=1;", 1);
        reads("f=e;", 1);
        reads("a=b+c;", 1);
        reads("a=b-7;", 1);
        reads("a=12*999;", 1);
        reads("!f;", 1);
        reads("#;", 1);
        reads("[a]", 1);
        reads("[a#;]", 2);
        reads("?a:.", 1);
        reads("?a#;:.", 2);
        reads("?a:#;.", 2);
        reads("?a[b]:?c:..", 3);
        reads("[aa=a-1;]#;", 3);
        reads(times("#;", 60), 60);
        reads(times("#;", 59) + "  ", 59);
        reads(times("[a]", 40), 40);
    }

    private static void readSpaces() {
        reads("   ", 0);
        reads(times(" ", 120), 0);
        reads(times(" ", 118) + "#;", 1);
        reads("  a  =  b  +  7  ;  ", 1);
        reads(" ! a ; # ; [ a # ; ] ? b # ; : # ; . ", 7);
        reads("a=1 2;", -1004);
        reads("a=1 ;", 1);
        reads("a=0 0;", -1004);
        reads("a=1" + (char) 9 + ";", -1003);
        reads("a=1" + (char) 160 + ";", -1003);
        reads("a=1   ", -1006);
        reads("[ a ", -1004);
    }

    private static void readNumbers() {
        reads("a=0;", 1);
        reads("a=9;", 1);
        reads("a=10;", 1);
        reads("a=999;", 1);
        reads("a=1000;", -1005);
        reads("a=00;", -1003);
        reads("a=007;", -1003);
        reads("a=1+00;", -1005);
        reads("a=1+1234;", -1007);
        reads("a=-1;", -1002);
        PairedSteps x = with("!a;a=907;!a;a=50;!a;a=0;!a;", "");
        due("number 907", x.told(0, 0, 0, 1), 907);
        due("number 50", x.told(0, 0, 0, 2), 50);
        due("number 0", x.told(0, 5, 0, 3), 0);
    }

    private static void readFailures() {
        reads("g=1;", -1000);
        reads("A=1;", -1000);
        reads("`=1;", -1000);
        reads("1=a;", -1000);
        reads(";", -1000);
        reads("]", -1000);
        reads(":", -1000);
        reads(".", -1000);
        reads("a", -1001);
        reads("a=", -1002);
        reads("a=b", -1003);
        reads("a=b+", -1004);
        reads("a=b+c", -1005);
        reads("a+b;", -1001);
        reads("a=;", -1002);
        reads("a=g;", -1002);
        reads("a=b/c;", -1003);
        reads("a=b+;", -1004);
        reads("a=b+c+d;", -1005);
        reads("a=bc;", -1003);
        reads("a==b;", -1002);
        reads("!", -1001);
        reads("!1;", -1001);
        reads("!a", -1002);
        reads("!a=", -1002);
        reads("#", -1001);
        reads("#a", -1001);
        reads("[", -1001);
        reads("[1]", -1001);
        reads("[a", -1002);
        reads("[a;", -1002);
        reads("[a.", -1002);
        reads("[a:", -1002);
        reads("[a]]", -1003);
        reads("?", -1001);
        reads("?#", -1001);
        reads("?a", -1002);
        reads("?a.", -1002);
        reads("?a]", -1002);
        reads("?a:", -1003);
        reads("?a::", -1003);
        reads("?a:]", -1003);
        reads("?a:..", -1004);
        reads("[a?b:].", -1005);
        reads("?a[b:.", -1004);
        reads("a=1;" + (char) 255, -1004);
        reads(times("#;", 59) + "a=", -1120);
        reads(times("a=b+c;", 19) + "a=b+cc", -1119);
    }

    private static void readDepth() {
        reads(times("[a", 5) + times("]", 5), 5);
        reads(times("?a", 5) + times(":.", 5), 5);
        reads("[a?b[c?d[e]:.]:.]", 5);
        reads(times("[a", 6) + times("]", 6), -1010);
        reads(times("?a", 6) + times(":.", 6), -1010);
        reads(times("?a:", 5) + "[a]", -1015);
        reads("[a?b[c?d[e?f", -1010);
        reads("[a[a[a[a[a #;?", -1013);
        reads(times("[a", 5) + times("]", 5) + times("[b", 5) + times("]", 5), 10);
        reads("?a[a[a[a[a]]]]:[a[a[a[a]]]].", 9);
        reads("[a[a[a[a[a][b]]]]]", 6);
        reads("[a[a[a[a[a]?b[", -1013);
    }

    private static void readAsAction() {
        PairedSteps x = new PairedSteps();
        type(x, "a=1;");
        due("read -1", x.read(-1), INVALID);
        due("read 2", x.read(2), INVALID);
        due("read 0", x.read(0), 1);
        due("states", x.count(2), 1);
        due("the text stays", x.count(3), 4);
        due("read 0 once more", x.read(0), 1);
        due("states: also if nothing changes", x.count(2), 2);
        due("read 1", x.read(1), 1);
        type(x, "#;#;!");
        due("read that fails", x.read(0), -1005);
        due("read that fails, 1", x.read(1), -1005);
        due("read -1 of a text that fails", x.read(-1), INVALID);
        due("the text stays", x.count(3), 5);
        due("states", x.count(2), 3);
        due("the program 0 stays", x.program(0, 1), 1);
        due("the program 0 stays", x.program(0, 3), 0);
        due("the program 1 stays", x.count(1), 1);
        due("undo", x.undo(), 2);
        due("program 1 before it", x.count(1), 0);
        due("program 0 before it", x.count(0), 1);
        due("the text is no part of a state", x.count(3), 5);
        due("a text that fails in two [", readText(x, 0, "[a[a;"), -1004);
        due("a text behind it", readText(x, 1, "#;"), 1);
        due("a ] behind it", readText(x, 1, "#;]"), -1002);
        x.clearText();
        due("read the empty text", x.read(0), 0);
        due("count 0", x.count(0), 0);
        PairedSteps y = with("[a#;a=a-1;]", "");
        readText(y, 0, "#;");
        due("in place of the one that there is", y.run(0, 3, 0, 0), 1);
    }

    // ---- Promise 5

    private static void copyProgram() {
        PairedSteps x = with("a=a+1;!a;", "#;");
        due("states", x.count(2), 2);
        due("copy", x.copy(), 2);
        due("count 0", x.count(0), 2);
        due("count 1", x.count(1), 2);
        due("told 1", x.told(1, 4, 0, 0), 5);
        due("states", x.count(2), 3);
        due("copy again", x.copy(), 2);
        due("states", x.count(2), 4);
        due("cut 1", x.cut(1, 0), 1);
        due("the program 0 is another one", x.count(0), 2);
        due("told 0", x.told(0, 4, 0, 0), 5);
        due("told 1", x.told(1, 4, 0, 0), 4);
        due("undo", x.undo(), 4);
        due("undo", x.undo(), 3);
        due("undo", x.undo(), 2);
        due("program 1 before copy", x.program(1, 3), 1);
        PairedSteps y = with("", "#;");
        due("copy an empty one", y.copy(), 0);
        due("count 1", y.count(1), 0);
    }

    // ---- Promise 6

    private static void exchangePrograms() {
        PairedSteps x = with("a=a+1;!a;", "#;!b;!a;");
        due("exchange", x.exchange(), 3);
        due("count 0", x.count(0), 3);
        due("count 1", x.count(1), 2);
        due("told 0", x.told(0, 4, 9, 0), 9);
        due("told 1", x.told(1, 4, 9, 0), 5);
        due("states", x.count(2), 3);
        due("cut 0", x.cut(0, 0), 2);
        due("exchange", x.exchange(), 2);
        due("count 0", x.program(0, 1), 1);
        due("undo", x.undo(), 4);
        due("program 0 before exchange", x.program(0, 1), 0);
        due("program 0 before exchange", x.program(0, 2), 2);
        due("undo", x.undo(), 3);
        due("undo", x.undo(), 2);
        due("count 0", x.program(0, 1), 1);
        due("count 1", x.count(1), 3);
    }

    // ---- Promise 7

    private static void cutStatements() {
        PairedSteps x = with("#;[a!a;?b#;:!b;.a=a-1;]!c;", "#;");
        due("cut -1", x.cut(0, -1), INVALID);
        due("cut 8", x.cut(0, 8), INVALID);
        due("cut 2 0", x.cut(2, 0), INVALID);
        due("cut -1 0", x.cut(-1, 0), INVALID);
        due("cut 1 1", x.cut(1, 1), INVALID);
        due("states", x.count(2), 2);
        due("cut ?", x.cut(0, 3), 5);
        due("no ?", x.program(0, 5), 0);
        due("steps", x.run(0, 2, 1, 0), 9);
        due("values", x.run(0, 2, 1, 2), 3);
        due("undo", x.undo(), 2);
        due("steps", x.run(0, 2, 1, 0), 13);
        due("cut [", x.cut(0, 1), 2);
        due("steps", x.run(0, 2, 1, 0), 2);
        due("told", x.told(0, 2, 1, 0), 0);
        due("cut the last", x.cut(0, 1), 1);
        due("cut 0 1 then", x.cut(0, 1), INVALID);
        due("states", x.count(2), 4);
        due("cut the only one", x.cut(0, 0), 0);
        due("cut of an empty one", x.cut(0, 0), INVALID);
        due("the other one stays", x.count(1), 1);
        cutParts();
    }

    private static void cutParts() {
        PairedSteps x = with("?a!a;:!b;.!c;", "");
        due("cut all ahead of :", x.cut(0, 1), 3);
        due("values", x.run(0, 1, 5, 2), 1);
        due("value", x.told(0, 1, 5, 0), 0);
        due("values", x.run(0, 0, 5, 2), 2);
        due("value", x.told(0, 0, 5, 0), 5);
        due("cut all behind :", x.cut(0, 1), 2);
        due("values", x.run(0, 0, 5, 2), 1);
        due("steps", x.run(0, 0, 5, 0), 2);
        PairedSteps y = with("?a!a;:!b;#;.!c;", "");
        due("cut the first one behind :", y.cut(0, 2), 4);
        due("values", y.run(0, 0, 5, 2), 1);
        due("marks", y.run(0, 0, 5, 3), 1);
        due("marks", y.run(0, 1, 5, 3), 0);
        due("value", y.told(0, 1, 5, 0), 1);
        PairedSteps z = with("[aa=a-1;]#;", "[a[b[c#;]]]");
        due("cut all in [", z.cut(0, 1), 2);
        due("it goes on for ever", z.run(0, 1, 0, 1), 1);
        due("marks", z.run(0, 1, 0, 3), 0);
        due("nested", z.program(1, 6), 3);
        due("cut the inner one", z.cut(1, 2), 2);
        due("nested", z.program(1, 6), 2);
        due("steps", z.run(1, 1, 0, 0), 400);
        PairedSteps w = with("#;[a[b#;b=b-1;]a=a-1;]", "");
        due("cut ahead of [", w.cut(0, 0), 5);
        due("marks", w.run(0, 2, 3, 3), 3);
        due("steps", w.run(0, 2, 3, 0), 16);
        due("nested", w.program(0, 6), 2);
    }

    // ---- Promise 8

    private static void undoStates() {
        PairedSteps x = new PairedSteps();
        due("undo", x.undo(), STATE);
        for (int actions = 1; actions <= 7; actions++) {
            readText(x, 0, times("#;", actions));
        }
        due("states", x.count(2), 5);
        for (int left = 4; left >= 0; left--) {
            due("undo", x.undo(), left);
            due("count 0", x.count(0), left + 2);
        }
        due("undo of an empty history", x.undo(), STATE);
        due("count 0", x.count(0), 2);
        due("text", x.count(3), 14);
        PairedSteps y = with("a=1;", "b=2;!b;");
        y.exchange();
        y.copy();
        y.cut(1, 0);
        y.cut(0, 1);
        due("states", y.count(2), 5);
        due("undo", y.undo(), 4);
        due("count 0", y.count(0), 2);
        due("count 1", y.count(1), 1);
        due("undo", y.undo(), 3);
        due("told", y.told(1, 0, 0, 0), 2);
        due("undo", y.undo(), 2);
        due("count 1", y.count(1), 1);
        due("undo", y.undo(), 1);
        due("count 0", y.count(0), 1);
        due("count 1", y.count(1), 2);
        due("an action behind undo", y.copy(), 1);
        due("states", y.count(2), 2);
        due("undo", y.undo(), 1);
        due("count 1", y.count(1), 2);
        due("undo", y.undo(), 0);
        due("count 1", y.count(1), 0);
        due("cells that are set", y.program(0, 7), 1);
    }

    // ---- Promise 9

    private static void countNumbers() {
        PairedSteps x = with("a=1;", "[a#;]!b;");
        due("count -1", x.count(-1), INVALID);
        due("count 4", x.count(4), INVALID);
        due("count 0", x.count(0), 1);
        due("count 1", x.count(1), 3);
        due("count 2", x.count(2), 2);
        due("count 3", x.count(3), 8);
        due("cut", x.cut(0, 3), INVALID);
        due("count 2", x.count(2), 2);
    }

    // ---- Promise 10

    private static void programProperties() {
        PairedSteps x = with("a=1;c=c+d;f=0;a=2;!a;!e;!e;#;#;[d]?e:.[b?a#;:[a].]", "?a:[b?c:.].");
        int[] zeroth = {15, 4, 3, 3, 3, 2, 3, 37};
        int[] first = {3, 0, 0, 0, 1, 2, 3, 0};
        for (int what = 0; what <= 7; what++) {
            due("program 0 " + what, x.program(0, what), zeroth[what]);
            due("program 1 " + what, x.program(1, what), first[what]);
        }
        due("program 0 -1", x.program(0, -1), INVALID);
        due("program 0 8", x.program(0, 8), INVALID);
        due("program 2 0", x.program(2, 0), INVALID);
        due("program -1 0", x.program(-1, 0), INVALID);
        PairedSteps y = with("b=1;", "[a[a[a[a[af=1;]]]]]");
        due("nested without any", y.program(0, 6), 0);
        due("set", y.program(0, 7), 2);
        due("nested 5", y.program(1, 6), 5);
        due("set", y.program(1, 7), 32);
        due("nested 1", with("[a#;]", "").program(0, 6), 1);
        due("nested 1", with("?a:.", "").program(0, 6), 1);
        due("nested 2, then 1", with("[a[b]][c]", "").program(0, 6), 2);
        due("a cell that is only read", with("!a;b=c;", "").program(0, 7), 2);
    }

    // ---- Promise 11

    private static void runSteps() {
        PairedSteps x = with("a=a+1;!a;#;[ca=1;]?a#;:!b;!b;.", "[a#;#;#;]");
        due("steps", x.run(0, 0, 0, 0), 6);
        due("steps", x.run(0, -1, 0, 0), 7);
        due("cut off", x.run(0, -1, 0, 1), 0);
        due("values", x.run(0, -1, 0, 2), 3);
        due("marks", x.run(0, 0, 0, 3), 2);
        due("rounds", x.run(0, 0, 0, 4), 0);
        due("most rounds", x.run(0, 0, 0, 5), 0);
        due("steps of [ that is not entered", x.run(1, 0, 0, 0), 1);
        due("steps", x.run(1, 1, 0, 0), 400);
        due("cut off", x.run(1, 1, 0, 1), 1);
        due("marks", x.run(1, 1, 0, 3), 300);
        due("rounds", x.run(1, 1, 0, 4), 100);
        due("most rounds", x.run(1, 1, 0, 5), 100);
        int[][] wrongs = {{-1, 0, 0, 0}, {2, 0, 0, 0}, {0, -1000, 0, 0}, {0, 1000, 0, 0}, {0, 0, -1000, 0},
            {0, 0, 1000, 0}, {0, 0, 0, -1}, {0, 0, 0, 6}};
        for (int[] w : wrongs) {
            due("run " + w[0] + " " + w[1] + " " + w[2] + " " + w[3], x.run(w[0], w[1], w[2], w[3]), INVALID);
        }
        due("lowest input", x.run(0, -999, -999, 0), 7);
        due("highest input", x.run(1, 999, 999, 0), 400);
        runToTheLastStep();
    }

    /** Programs that end at 400 steps, and such that would make one more. */
    private static void runToTheLastStep() {
        PairedSteps x = with("[aa=a-1;#;]", "[ab=b+1;a=a-1;]!b;");
        due("399 steps and a look", x.run(0, 133, 0, 0), 400);
        due("not cut off", x.run(0, 133, 0, 1), 0);
        due("one round more", x.run(0, 134, 0, 0), 400);
        due("cut off", x.run(0, 134, 0, 1), 1);
        due("marks", x.run(0, 134, 0, 3), 133);
        due("the round began with the 400th step", x.run(0, 134, 0, 4), 134);
        due("and counts", x.run(0, 134, 0, 5), 134);
        due("the cells behind the 400th step", x.cell(0, 134, 0, -1, 0), 1);
        due("400 steps, and a value missing", x.run(1, 133, 0, 1), 1);
        due("no value", x.run(1, 133, 0, 2), 0);
        due("the last look was made", x.run(1, 133, 0, 0), 400);
        due("cells", x.cell(1, 133, 0, -1, 0), 0);
        due("cells", x.cell(1, 133, 0, -1, 1), 133);
        due("397 steps and a value", x.run(1, 132, 0, 0), 398);
        PairedSteps y = with("[a]", "?a:.[b?a:.]");
        due("only looks", y.run(0, 1, 0, 0), 400);
        due("rounds", y.run(0, 1, 0, 4), 400);
        due("most rounds", y.run(0, 1, 0, 5), 400);
        due("steps", y.run(1, 1, 0, 0), 2);
        due("rounds", y.run(1, 0, 1, 4), 200);
    }

    private static void runRounds() {
        PairedSteps x = with("[ac=a;[cc=c-1;]a=a-1;]", "[aa=a-1;][bb=b-1;]a=2;[aa=a-1;]");
        due("rounds", x.run(0, 3, 0, 4), 9);
        due("most rounds", x.run(0, 3, 0, 5), 3);
        due("rounds", x.run(0, 5, 0, 4), 20);
        due("most rounds", x.run(0, 5, 0, 5), 5);
        due("rounds of all loops", x.run(1, 4, 3, 4), 9);
        due("the greatest number", x.run(1, 4, 3, 5), 4);
        due("the greatest number", x.run(1, 4, 7, 5), 7);
        due("the greatest number", x.run(1, 0, 0, 5), 2);
        due("rounds of a cell below 0", x.run(1, -4, -3, 4), 2);
        PairedSteps y = with("[ac=3;[cc=c-1;]a=a-1;]", "[bc=b;[cc=c-1;]b=b-1;c=4;[cc=c-1;]]");
        due("rounds of a loop that is come to again", y.run(0, 4, 0, 4), 16);
        due("start anew", y.run(0, 2, 0, 5), 3);
        due("the outer one", y.run(0, 4, 0, 5), 4);
        due("each loop for itself", y.run(1, 0, 3, 5), 4);
        due("all of them", y.run(1, 0, 3, 4), 21);
        PairedSteps z = with("[a[b#;]]", "");
        due("cut off inside", z.run(0, 1, 1, 4), 201);
        due("cut off inside", z.run(0, 1, 1, 5), 200);
    }

    private static void runValues() {
        PairedSteps x = with("c=a+b;!c;c=a-b;!c;c=a*b;!c;c=b;!c;", "a=999;b=a+a;!b;b=a*a;!b;b=0-a;!b;b=b-1;!b;b=b*a;!b;");
        int[][] sums = {{3, 4, 7, -1, 12, 4}, {-5, 7, 2, -12, -35, 7}, {999, 1, 999, 998, 999, 1},
            {-999, 1, -998, -999, -999, 1}, {-999, -999, -999, 0, 999, -999}, {999, -999, 0, 999, -999, -999},
            {500, 500, 999, 0, 999, 500}, {31, 32, 63, -1, 992, 32}, {32, -32, 0, 64, -999, -32}};
        for (int[] s : sums) {
            for (int index = 0; index < 4; index++) {
                due("sum " + index + " of " + s[0] + " " + s[1], x.told(0, s[0], s[1], index), s[index + 2]);
            }
        }
        int[] limits = {999, 999, -999, -999, -999};
        for (int index = 0; index < 5; index++) {
            due("limit " + index, x.told(1, 0, 0, index), limits[index]);
        }
        PairedSteps y = with("?a!a;:!b;.", "?a:!b;.[b!b;b=b-2;]");
        due("? greater than 0", y.told(0, 1, 7, 0), 1);
        due("? of 0", y.told(0, 0, 7, 0), 7);
        due("? below 0", y.told(0, -1, 7, 0), 7);
        due("? one value", y.run(0, 1, 7, 2), 1);
        due("? and [", y.run(1, 0, 3, 2), 3);
        due("? and [", y.run(1, 1, 3, 2), 2);
        due("cell below 0", y.cell(1, 1, 3, -1, 1), -1);
        due("a cell set by itself", with("a=a;a=a*a;a=a-a;!a;", "").told(0, 7, 0, 0), 0);
    }

    // ---- Promise 12

    private static void toldValues() {
        PairedSteps x = with("[a!a;a=a-1;]!b;", "[a!b;b=b+1;]");
        due("told first", x.told(0, 3, 9, 0), 3);
        due("told last", x.told(0, 3, 9, 3), 9);
        due("told behind it", x.told(0, 3, 9, 4), NONE);
        due("told 38", x.told(0, 39, 9, 38), 1);
        due("told 39", x.told(0, 39, 9, 39), 9);
        due("told 40", x.told(0, 40, 9, 40), NONE);
        due("all values", x.run(0, 40, 9, 2), 41);
        due("told 39 of 41", x.told(0, 40, 9, 39), 1);
        due("told far behind", x.told(0, 40, 9, Integer.MAX_VALUE), NONE);
        due("told by a run that is cut off", x.told(1, 1, 5, 39), 44);
        due("all values then", x.run(1, 1, 5, 2), 133);
        int[][] wrongs = {{-1, 0, 0, 0}, {2, 0, 0, 0}, {0, -1000, 0, 0}, {0, 1000, 0, 0}, {0, 0, -1000, 0},
            {0, 0, 1000, 0}, {0, 0, 0, -1}, {0, 0, 0, Integer.MIN_VALUE}, {2, 0, 0, 99}};
        for (int[] w : wrongs) {
            due("told " + w[0] + " " + w[1] + " " + w[2] + " " + w[3], x.told(w[0], w[1], w[2], w[3]), INVALID);
        }
        due("told -999", x.told(0, -999, -999, 0), -999);
        due("told 999", x.told(0, 0, 999, 0), 999);
    }

    // ---- Promise 13

    private static void cellsAtMarks() {
        PairedSteps x = with("#;[ac=c+2;#;a=a-1;]f=7;", "[a#;b=b+1;]");
        due("cell a at 0", x.cell(0, 3, 8, 0, 0), 3);
        due("cell b at 0", x.cell(0, 3, 8, 0, 1), 8);
        for (int cell = 2; cell <= 5; cell++) {
            due("cell " + cell + " at 0", x.cell(0, 3, 8, 0, cell), 0);
        }
        due("cell a at 2", x.cell(0, 3, 8, 2, 0), 2);
        due("cell c at 2", x.cell(0, 3, 8, 2, 2), 4);
        due("cell c at 3", x.cell(0, 3, 8, 3, 2), 6);
        due("cell c at 4", x.cell(0, 3, 8, 4, 2), NONE);
        due("cell c behind", x.cell(0, 3, 8, -1, 2), 6);
        due("cell a behind", x.cell(0, 3, 8, -1, 0), 0);
        due("cell f behind", x.cell(0, 3, 8, -1, 5), 7);
        due("cell f at 3", x.cell(0, 3, 8, 3, 5), 0);
        due("mark 39", x.cell(1, 1, 0, 39, 1), 39);
        due("mark 40", x.cell(1, 1, 0, 40, 1), NONE);
        due("marks", x.run(1, 1, 0, 3), 133);
        due("behind a run that is cut off", x.cell(1, 1, 0, -1, 1), 133);
        due("mark far behind", x.cell(1, 1, 0, Integer.MAX_VALUE, 1), NONE);
        int[][] wrongs = {{-1, 0, 0, 0, 0}, {2, 0, 0, 0, 0}, {0, -1000, 0, 0, 0}, {0, 1000, 0, 0, 0},
            {0, 0, -1000, 0, 0}, {0, 0, 1000, 0, 0}, {0, 0, 0, -2, 0}, {0, 0, 0, Integer.MIN_VALUE, 0},
            {0, 0, 0, 0, -1}, {0, 0, 0, 0, 6}, {0, 0, 0, 99, 6}, {0, 0, 0, -1, 6}};
        for (int[] w : wrongs) {
            due("cell " + w[0] + " " + w[1] + " " + w[2] + " " + w[3] + " " + w[4],
                x.cell(w[0], w[1], w[2], w[3], w[4]), INVALID);
        }
        due("cell of the highest input", x.cell(0, -999, 999, -1, 1), 999);
    }

    // ---- Promise 14

    private static void pairsOfMarks() {
        PairedSteps x = with("#;c=1;#;#;", "#;#;");
        due("pairs", x.pairs(0, 0, 0), 2);
        due("greatest", x.pairs(0, 0, 1), 1);
        due("last", x.pairs(0, 0, 2), 1);
        due("even", x.pairs(0, 0, 3), 1);
        x.exchange();
        due("pairs", x.pairs(0, 0, 0), 2);
        due("greatest size of a lead below 0", x.pairs(0, 0, 1), 1);
        due("last below 0", x.pairs(0, 0, 2), -1);
        PairedSteps y = with("d=1;d=1;d=1;#;#;", "#;a=a;a=a;a=a;a=a;d=1;#;");
        due("greatest is not the last", y.pairs(1, 2, 1), 3);
        due("last", y.pairs(1, 2, 2), -2);
        due("even", y.pairs(1, 2, 3), 1);
        due("even pairs behind one that is not", with("c=1;#;c=0;#;#;", "#;#;c=1;#;").pairs(5, 5, 3), 1);
        PairedSteps z = with("[a#;#;]", "[a#;]");
        due("at most 40", z.pairs(1, 0, 0), 40);
        due("last lead of these", z.pairs(1, 0, 2), -20);
        due("greatest", z.pairs(1, 0, 1), 20);
        due("even", z.pairs(1, 0, 3), 40);
        due("no pairs", z.pairs(0, 0, 0), 0);
        due("no greatest", z.pairs(0, 0, 1), NONE);
        due("no last", z.pairs(0, 0, 2), NONE);
        due("no even ones", z.pairs(0, 0, 3), 0);
        int[][] wrongs = {{-1000, 0, 0}, {1000, 0, 0}, {0, -1000, 0}, {0, 1000, 0}, {0, 0, -1}, {0, 0, 4}};
        for (int[] w : wrongs) {
            due("pairs " + w[0] + " " + w[1] + " " + w[2], z.pairs(w[0], w[1], w[2]), INVALID);
        }
        due("not even for the cell a alone", with("#;", "a=a+1;#;").pairs(1, 1, 3), 0);
        due("not even for the cell f alone", with("#;", "f=1;#;").pairs(1, 1, 3), 0);
        due("leads of 0", with("#;", "#;").pairs(-999, 999, 1), 0);
        due("a ? and a [ are steps", with("?a:.[c]#;", "#;").pairs(0, 0, 2), 2);
    }

    // ---- Promise 15

    private static void equalCells() {
        PairedSteps x = with("c=a;#;", "d=a;#;");
        due("a", x.equal(3, 5, 0), 1 + 8);
        due("b", x.equal(3, 5, 1), 2);
        due("c", x.equal(3, 5, 2), 1 + 8);
        due("d", x.equal(3, 5, 3), 4 + 16 + 32);
        due("all", x.equal(0, 0, 5), 63);
        due("e of 5 5", x.equal(5, 5, 0), 11);
        PairedSteps y = with("#;a=a+1;#;", "#;b=b+1;#;");
        due("at all pairs", y.equal(2, 2, 0), 2);
        due("at all pairs", y.equal(2, 2, 1), 1);
        due("at all pairs", y.equal(2, 3, 0), 0);
        due("no pairs", with("#;", "a=1;").equal(1, 2, 0), 63);
        due("marks without a pair do not count", with("#;a=9;#;", "#;").equal(1, 2, 0), 1);
        int[][] wrongs = {{-1000, 0, 0}, {1000, 0, 0}, {0, -1000, 0}, {0, 1000, 0}, {0, 0, -1}, {0, 0, 6}};
        for (int[] w : wrongs) {
            due("equal " + w[0] + " " + w[1] + " " + w[2], x.equal(w[0], w[1], w[2]), INVALID);
        }
        due("highest", x.equal(999, -999, 0), 9);
    }

    // ---- Promise 16

    private static void firstDifferences() {
        PairedSteps x = with("!a;!b;", "!a;!a;!c;");
        due("another value", x.difference(1, 2), 1);
        due("a value that is missing", x.difference(2, 2), 2);
        x.exchange();
        due("a value that is missing", x.difference(2, 2), 2);
        due("a value 0 against none", with("", "!c;").difference(0, 0), 0);
        due("no difference", with("!a;a=3;", "!a;").difference(1, 2), NONE);
        PairedSteps y = with("[a!a;a=a-1;]", "[a!a;a=a-1;]!c;");
        due("the value 39", y.difference(39, 0), 39);
        due("the value 40", y.difference(40, 0), NONE);
        due("cut off or not", with("!a;", "!a;[a]").difference(1, 0), NONE);
        due("cut off or not", with("[a!b;b=b+1;]", "[a!b;b=b+1;#;]").difference(1, 0), NONE);
        due("the first 40", with("[a!b;]", "[b!b;a=a;b=b+c;d=d+1;e=d-39;?ec=1;:.]").difference(1, 1), NONE);
        due("difference -1000", x.difference(-1000, 0), INVALID);
        due("difference 1000", x.difference(1000, 0), INVALID);
        due("difference -1000", x.difference(0, -1000), INVALID);
        due("difference 1000", x.difference(0, 1000), INVALID);
        due("difference 999", x.difference(999, -999), 1);
    }

    // ---- Promise 17

    private static void agreement() {
        PairedSteps x = with("!a;", "?b!b;:!a;.");
        due("agree", x.agree(0, 3, 0), 7);
        due("first number", x.agree(0, 3, 1), 0);
        due("second number", x.agree(0, 3, 2), 1);
        due("agree below 0", x.agree(-9, 0, 0), 100);
        due("none", x.agree(-9, 0, 1), NONE);
        due("none", x.agree(-9, 0, 2), NONE);
        due("one input", x.agree(9, 9, 0), 1);
        due("all", x.agree(-9, 9, 0), 190 + 9);
        due("first number", x.agree(-9, 9, 1), -9);
        due("second number", x.agree(-9, 9, 2), 1);
        PairedSteps y = with("!a;", "c=b-a;c=c*c;d=b*b;d=d-3;?dc=c;:c=1;.?c!a;:!b;!b;.");
        due("the smallest first number", y.agree(-5, 5, 1), -5);
        due("the smallest second number of it", y.agree(-5, 5, 2), -5);
        due("cut off: neither may be", with("[a]", "").agree(-1, 1, 0), 6);
        due("cut off: neither may be", with("", "[a]").agree(-1, 1, 0), 6);
        due("cut off: both", with("[a]", "[a]").agree(-1, 1, 1), 1);
        due("cut off: both", with("[a]", "[a]").agree(-1, 1, 2), -1);
        String loop = "a=40;[a!a;a=a-1;]";
        due("the number of all values", with(loop, loop + "!a;").agree(0, 1, 0), 0);
        due("the same values", with(loop + "!c;", loop + "!a;").agree(0, 1, 0), 4);
        due("beyond the first 40", with(loop + "!c;", loop + "!b;").agree(0, 1, 0), 4);
        due("among the first 40", with("a=39;[a!a;a=a-1;]!c;", "a=39;[a!a;a=a-1;]!b;").agree(0, 1, 0), 2);
        int[][] wrongs = {{-10, 0, 0}, {10, 10, 0}, {0, 10, 0}, {1, 0, 0}, {0, 0, -1}, {0, 0, 3},
            {Integer.MIN_VALUE, 0, 0}, {0, Integer.MAX_VALUE, 0}, {9, 8, 0}, {-9, -10, 0}};
        for (int[] w : wrongs) {
            due("agree " + w[0] + " " + w[1] + " " + w[2], x.agree(w[0], w[1], w[2]), INVALID);
        }
    }

    // ---- Promise 18

    private static void alwaysEqual() {
        PairedSteps x = with("c=a+b;#;", "d=b+a;e=a*b;#;");
        due("a", x.always(0), 1);
        due("b", x.always(1), 2);
        due("c", x.always(2), 8);
        due("d", x.always(3), 4 + 32);
        due("always -1", x.always(-1), INVALID);
        due("always 6", x.always(6), INVALID);
        PairedSteps y = with("#;", "c=a;d=a-3;?dc=0;:.e=b;d=b-3;?de=0;:.d=0;#;");
        due("inputs up to 3: a", y.always(0), 1 + 4);
        due("inputs up to 3: b", y.always(1), 2 + 16);
        PairedSteps z = with("#;", "c=a;d=a-2;?dc=0;:.e=b;d=b-2;?de=0;:.d=0-1;?ad=a;:d=0;.#;");
        due("the first number 3", z.always(0), 1 + 8);
        due("the second number 3", z.always(1), 2);
        due("the first input", with("#;", "c=a;d=1;?ad=0;:.?bd=0;:.?dc=9;:.d=0;#;").always(0), 1);
        due("the last input", with("#;", "c=a;d=a*b;d=d-8;?dc=9;:.d=0;#;").always(0), 1);
        due("no pairs", with("#;", "").always(4), 63);
        due("pairs of some inputs", with("[a#;a=0;]", "[a#;a=0;]").always(0), 1);
        due("inputs below 0 do not count", with("#;", "c=a;d=0-a;?dc=9;:.d=0;#;").always(0), 5);
    }

    // ---- Promise 19

    private static void idleStatements() {
        due("nothing to cut", with("!a;", "").idle(0), NONE);
        due("idle -1", with("!a;", "").idle(-1), INVALID);
        due("idle 2", with("!a;", "").idle(2), INVALID);
        due("empty", with("!a;", "").idle(1), NONE);
        due("the second statement", with("!a;a=a;", "").idle(0), 1);
        due("of the program 1", with("!a;", "#;!a;").idle(1), 0);
        due("the smallest number", with("!a;#;#;", "").idle(0), 1);
        due("within [", with("[a!a;#;a=a-1;]!b;", "").idle(0), 2);
        due("with all that is in it", with("!a;[c!c;c=c-1;]", "").idle(0), 1);
        due("a mark is not put out", with("!a;#;", "").idle(0), 1);
        due("cut off just if they were", with("!a;[a]", "").idle(0), NONE);
        due("a loop that ends", with("!a;[aa=a-1;]", "").idle(0), 1);
        due("inputs up to 3 alone", with("c=a-3;[c!b;c=0;]", "").idle(0), 0);
        due("the second number too", with("c=b-2;[c!b;c=0;]", "").idle(0), NONE);
        due("the first input", with("c=1;?ac=0;:.?bc=0;:.[c!c;c=0;]", "").idle(0), NONE);
        due("the last input", with("c=a*b;c=c-8;[c!c;c=0;]", "").idle(0), NONE);
        due("the number of all values", with("[a!b;]", "").idle(0), NONE);
        due("beyond the first 40", with("a=40;[a!b;a=a-1;]c=b;!c;", "").idle(0), 4);
        due("a number above 40", with("a=40;[a!b;a=a-1;]!b;", "").idle(0), NONE);
        due("among the first 40", with("a=39;[a!b;a=a-1;]c=b+1;!c;", "").idle(0), NONE);
        PairedSteps x = with("!a;#;", "!b;");
        x.idle(0);
        due("it changes nothing", x.count(0), 2);
        due("no action", x.count(2), 2);
        due("runs stay", x.run(0, 0, 0, 0), 2);
        due("the other one stays", x.told(1, 0, 7, 0), 7);
        type(x, "!a;!b;[a");
        due("a text that fails", x.read(0), -1008);
        due("idle behind it", x.idle(0), 1);
    }
}
