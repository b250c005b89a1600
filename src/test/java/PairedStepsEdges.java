/** A test for each sentence of the promises that names a boundary case, with answers that were worked out by hand. */
public final class PairedStepsEdges extends Checks {
    public static void main(String[] args) {
        newObject();
        append();
        clearText();
        read();
        copy();
        exchange();
        cut();
        undo();
        count();
        program();
        run();
        rounds();
        told();
        cell();
        pairs();
        equal();
        difference();
        agree();
        always();
        idle();
        finish();
    }

    // ---- Promise 1

    private static void newObject() {
        test("PairedSteps(): Creates two empty programs", () -> {
            PairedSteps x = new PairedSteps();
            due("count(0)", x.count(0), 0);
            due("count(1)", x.count(1), 0);
            for (int what = 0; what <= 7; what++) {
                due("program(0, " + what + ")", x.program(0, what), 0);
                due("program(1, " + what + ")", x.program(1, what), 0);
            }
        });
        test("PairedSteps(): Creates an empty text", () -> {
            PairedSteps x = new PairedSteps();
            due("count(3)", x.count(3), 0);
            due("clearText()", x.clearText(), 0);
            due("read(0)", x.read(0), 0);
        });
        test("PairedSteps(): the history of a new object is empty", () -> {
            PairedSteps x = new PairedSteps();
            due("count(2)", x.count(2), 0);
            due("undo()", x.undo(), STATE);
        });
        test("PairedSteps(): a new object has nothing of another one", () -> {
            PairedSteps x = with("#;", "!a;");
            PairedSteps y = new PairedSteps();
            due("count(0)", y.count(0), 0);
            due("count(3)", y.count(3), 0);
            y.append('a');
            due("count(0) of the other one", x.count(0), 1);
            due("count(3) of the other one", x.count(3), 3);
        });
    }

    // ---- Promise 2

    private static void append() {
        test("append: character code, 1 to 255: each of them", () -> {
            PairedSteps x = new PairedSteps();
            for (int character = 1; character <= 120; character++) {
                due("append(" + character + ")", x.append(character), character);
            }
            x.clearText();
            for (int character = 136; character <= 255; character++) {
                due("append(" + character + ")", x.append(character), character - 135);
            }
        });
        test("append: INVALID_ARGUMENT if character is out of range: too small", () -> {
            PairedSteps x = new PairedSteps();
            for (int character : new int[] {0, -1, -159, LEAST, -65439}) {
                due("append(" + character + ")", x.append(character), INVALID);
            }
            due("count(3)", x.count(3), 0);
        });
        test("append: INVALID_ARGUMENT if character is out of range: too large", () -> {
            PairedSteps x = new PairedSteps();
            for (int character : new int[] {256, 353, 65536, 65633, MOST}) {
                due("append(" + character + ")", x.append(character), INVALID);
            }
            due("count(3)", x.count(3), 0);
        });
        test("append: Returns the new length of the text: 1 for the first, 120 for the last one", () -> {
            PairedSteps x = new PairedSteps();
            for (int length = 1; length <= 120; length++) {
                due("append(32)", x.append(' '), length);
            }
            due("count(3)", x.count(3), 120);
        });
        test("append: CAPACITY_EXCEEDED if the text already has 120 characters", () -> {
            PairedSteps x = new PairedSteps();
            type(x, times("#;", 60));
            due("append(59)", x.append(';'), FULL);
            due("append(255)", x.append(255), FULL);
            due("count(3)", x.count(3), 120);
            due("read(0)", x.read(0), 60);
        });
        test("append: INVALID_ARGUMENT comes first if the text already has 120 characters", () -> {
            PairedSteps x = new PairedSteps();
            type(x, times("#;", 60));
            due("append(0)", x.append(0), INVALID);
            due("append(256)", x.append(256), INVALID);
        });
        test("append: behind clearText there is room again", () -> {
            PairedSteps x = new PairedSteps();
            type(x, times("#;", 60));
            x.append(';');
            x.clearText();
            due("append(35)", x.append('#'), 1);
            due("append(59)", x.append(';'), 2);
            due("read(0)", x.read(0), 1);
        });
    }

    // ---- Promise 3

    private static void clearText() {
        test("clearText: Makes the text empty: also one that is empty, and one that is full", () -> {
            PairedSteps x = new PairedSteps();
            x.clearText();
            due("count(3)", x.count(3), 0);
            type(x, times("#;", 60));
            x.clearText();
            due("count(3)", x.count(3), 0);
            due("read(0)", x.read(0), 0);
        });
        test("clearText: Returns the previous length of the text: 0, 1 and 120", () -> {
            PairedSteps x = new PairedSteps();
            due("clearText()", x.clearText(), 0);
            x.append('a');
            due("clearText()", x.clearText(), 1);
            due("clearText()", x.clearText(), 0);
            type(x, times("#;", 60));
            due("clearText()", x.clearText(), 120);
        });
        test("clearText: nothing of the old text is read with the new one", () -> {
            PairedSteps x = new PairedSteps();
            type(x, "#;#;#;");
            type(x, "#");
            due("read(0)", x.read(0), -1001);
        });
        test("clearText: the programs and the history stay", () -> {
            PairedSteps x = with("#;", "!a;!a;");
            x.clearText();
            due("count(0)", x.count(0), 1);
            due("count(1)", x.count(1), 2);
            due("count(2)", x.count(2), 2);
        });
    }

    // ---- Promise 4

    private static void read() {
        test("read: in place of the one that there is: a longer one, a shorter one, an empty one", () -> {
            PairedSteps x = with("#;", "");
            due("read(0)", readText(x, 0, times("#;", 60)), 60);
            due("read(0)", readText(x, 0, "!a;"), 1);
            due("run(0, 0, 0, 3)", x.run(0, 0, 0, 3), 0);
            due("run(0, 0, 0, 0)", x.run(0, 0, 0, 0), 1);
            due("read(0)", readText(x, 0, ""), 0);
            due("run(0, 0, 0, 0)", x.run(0, 0, 0, 0), 0);
        });
        test("read: in place of the one: the other program stays", () -> {
            PairedSteps x = with("#;#;", "!a;");
            readText(x, 1, "");
            due("count(0)", x.count(0), 2);
            due("count(1)", x.count(1), 0);
            readText(x, 0, "!b;");
            due("count(1)", x.count(1), 0);
        });
        test("read: If it does not fail, this is an action", () -> {
            PairedSteps x = new PairedSteps();
            readText(x, 0, "#;");
            due("count(2)", x.count(2), 1);
            readText(x, 1, "");
            due("count(2)", x.count(2), 2);
        });
        test("read: if it fails, this is no action, and the program stays", () -> {
            PairedSteps x = with("#;#;", "");
            due("read(0)", readText(x, 0, "!a;]"), -1003);
            due("count(2)", x.count(2), 2);
            due("count(0)", x.count(0), 2);
            due("program(0, 3)", x.program(0, 3), 2);
            due("run(0, 0, 0, 3)", x.run(0, 0, 0, 3), 2);
        });
        test("read: The text stays in either case", () -> {
            PairedSteps x = new PairedSteps();
            type(x, "#;");
            x.read(0);
            due("count(3)", x.count(3), 2);
            due("read(1)", x.read(1), 1);
            type(x, "#;!");
            x.read(0);
            due("count(3)", x.count(3), 3);
            due("read(0)", x.read(0), -1003);
            x.append('a');
            x.append(';');
            due("read(0)", x.read(0), 2);
        });
        test("read: a text that failed within [ or ? leaves nothing to the next one", () -> {
            PairedSteps x = new PairedSteps();
            due("read(0)", readText(x, 0, "[a?b#;[c"), -1008);
            due("read(0)", readText(x, 0, "#;"), 1);
            due("program(0, 6)", x.program(0, 6), 0);
            due("read(0)", readText(x, 0, "[a[b[c[d[e["), -1010);
            due("read(0)", readText(x, 0, "#;]"), -1002);
            due("read(0)", readText(x, 0, times("[a", 5) + times("]", 5)), 5);
        });
        test("read: Returns the number of its statements: 0, 1 and 60, and those that are nested too", () -> {
            reads("", 0);
            reads("!a;", 1);
            reads(times("#;", 60), 60);
            reads("[a[b#;]?c#;:#;.]", 6);
        });
        test("read: INVALID_ARGUMENT if program is neither 0 nor 1", () -> {
            PairedSteps x = new PairedSteps();
            type(x, "#;");
            for (int program : NO_PROGRAMS) {
                due("read(" + program + ")", x.read(program), INVALID);
            }
            due("read(0)", x.read(0), 1);
            due("read(1)", x.read(1), 1);
        });
        test("read: INVALID_ARGUMENT comes first if the text fails", () -> {
            PairedSteps x = new PairedSteps();
            type(x, "[");
            due("read(2)", x.read(2), INVALID);
            due("read(-1)", x.read(-1), INVALID);
        });
        test("read: -1000 minus the place of the failure: the first and the last place, and the length", () -> {
            reads("]", -1000);
            reads(times("#;", 59) + "##", -1119);
            reads(times("#;", 59) + " #", -1120);
        });
    }

    // ---- Promise 5

    private static void copy() {
        test("copy: Makes the program 1 the same as the program 0: an empty one", () -> {
            PairedSteps x = with("", "#;#;");
            due("copy()", x.copy(), 0);
            due("count(1)", x.count(1), 0);
            due("run(1, 0, 0, 0)", x.run(1, 0, 0, 0), 0);
        });
        test("copy: Makes the program 1 the same as the program 0: one of 60 statements", () -> {
            PairedSteps x = with(times("#;", 60), "!a;");
            due("copy()", x.copy(), 60);
            due("program(1, 3)", x.program(1, 3), 60);
            due("pairs(0, 0, 3)", x.pairs(0, 0, 3), 40);
        });
        test("copy: the program 0 stays, and a later change of one is none of the other", () -> {
            PairedSteps x = with("!a;#;", "");
            due("copy()", x.copy(), 2);
            due("count(0)", x.count(0), 2);
            x.cut(0, 0);
            due("count(1)", x.count(1), 2);
            x.copy();
            x.cut(1, 0);
            due("count(0)", x.count(0), 1);
        });
        test("copy: This is an action: also if both are the same", () -> {
            PairedSteps x = new PairedSteps();
            due("copy()", x.copy(), 0);
            due("copy()", x.copy(), 0);
            due("count(2)", x.count(2), 2);
            due("undo()", x.undo(), 1);
        });
    }

    // ---- Promise 6

    private static void exchange() {
        test("exchange: Exchanges the programs: two empty ones", () -> {
            PairedSteps x = new PairedSteps();
            due("exchange()", x.exchange(), 0);
            due("count(2)", x.count(2), 1);
        });
        test("exchange: Exchanges the programs: a full one and an empty one, and back", () -> {
            PairedSteps x = with(times("#;", 60), "");
            due("exchange()", x.exchange(), 0);
            due("count(0)", x.count(0), 0);
            due("count(1)", x.count(1), 60);
            due("exchange()", x.exchange(), 60);
            due("count(0)", x.count(0), 60);
            due("count(1)", x.count(1), 0);
        });
        test("exchange: calls that name a program mean the one that is there then", () -> {
            PairedSteps x = with("!a;", "!b;#;");
            x.exchange();
            due("told(0, 1, 2, 0)", x.told(0, 1, 2, 0), 2);
            due("told(1, 1, 2, 0)", x.told(1, 1, 2, 0), 1);
            due("cut(1, 1)", x.cut(1, 1), INVALID);
            due("cut(0, 1)", x.cut(0, 1), 1);
            due("read(1)", readText(x, 1, "#;#;#;"), 3);
            due("count(0)", x.count(0), 1);
        });
        test("exchange: This is an action: undo() exchanges back", () -> {
            PairedSteps x = with("!a;", "#;#;");
            x.exchange();
            due("count(2)", x.count(2), 3);
            due("undo()", x.undo(), 2);
            due("count(0)", x.count(0), 1);
            due("count(1)", x.count(1), 2);
        });
    }

    // ---- Promise 7

    private static void cut() {
        test("cut: a statement: the first and the last one", () -> {
            PairedSteps x = with("!a;!b;!c;", "");
            due("cut(0, 2)", x.cut(0, 2), 2);
            due("told(0, 5, 6, 1)", x.told(0, 5, 6, 1), 6);
            due("cut(0, 0)", x.cut(0, 0), 1);
            due("told(0, 5, 6, 0)", x.told(0, 5, 6, 0), 6);
        });
        test("cut: with all that is in it: [ with what is nested 5 deep, and nothing behind it", () -> {
            PairedSteps x = with("!a;[a[b[c[d[e#;]#;]#;]#;]#;]!b;", "");
            due("count(0)", x.count(0), 12);
            due("cut(0, 1)", x.cut(0, 1), 2);
            due("program(0, 6)", x.program(0, 6), 0);
            due("run(0, 1, 1, 2)", x.run(0, 1, 1, 2), 2);
        });
        test("cut: with all that is in it: ? with both parts", () -> {
            PairedSteps x = with("?a!a;[b!b;]:!c;?d:.!d;.!e;", "");
            due("cut(0, 0)", x.cut(0, 0), 1);
            due("run(0, 1, 1, 2)", x.run(0, 1, 1, 2), 1);
            due("run(0, 0, 1, 2)", x.run(0, 0, 1, 2), 1);
        });
        test("cut: with all that is in it: a whole program", () -> {
            PairedSteps x = with("[a" + times("#;", 58) + "]", "");
            due("count(0)", x.count(0), 59);
            due("cut(0, 0)", x.cut(0, 0), 0);
            due("run(0, 1, 0, 0)", x.run(0, 1, 0, 0), 0);
        });
        test("cut: numbered from 0 in the order in which they begin in the text", () -> {
            PairedSteps x = with("[a!a;?b!b;:!c;.a=a-1;]!d;", "");
            due("cut(0, 6)", x.cut(0, 6), 6);
            due("run(0, 0, 0, 2)", x.run(0, 0, 0, 2), 0);
            due("cut(0, 4)", x.cut(0, 4), 5);
            due("run(0, 1, 0, 2)", x.run(0, 1, 0, 2), 1);
            due("run(0, 1, 1, 2)", x.run(0, 1, 1, 2), 2);
            due("cut(0, 3)", x.cut(0, 3), 4);
            due("run(0, 1, 1, 2)", x.run(0, 1, 1, 2), 1);
            due("cut(0, 1)", x.cut(0, 1), 3);
            due("run(0, 1, 1, 2)", x.run(0, 1, 1, 2), 0);
            due("run(0, 1, 1, 0)", x.run(0, 1, 1, 0), 4);
        });
        test("cut: what is around the last statement in it stays, and is empty then", () -> {
            PairedSteps x = with("[a#;]#;", "?a#;:#;.#;");
            due("cut(0, 1)", x.cut(0, 1), 2);
            due("run(0, 0, 0, 3)", x.run(0, 0, 0, 3), 1);
            due("run(0, 1, 0, 4)", x.run(0, 1, 0, 4), 400);
            due("cut(1, 1)", x.cut(1, 1), 3);
            due("run(1, 1, 0, 3)", x.run(1, 1, 0, 3), 1);
            due("run(1, 0, 0, 3)", x.run(1, 0, 0, 3), 2);
            due("cut(1, 1)", x.cut(1, 1), 2);
            due("run(1, 0, 0, 3)", x.run(1, 0, 0, 3), 1);
            due("run(1, 1, 0, 0)", x.run(1, 1, 0, 0), 2);
        });
        test("cut: what is behind a cut statement goes on as it did, [ and ? too", () -> {
            PairedSteps x = with("#;[b?b#;:.b=b-1;]#;", "[c#;?c!c;:.]?a!a;[b!b;b=b-1;]:!c;.");
            due("cut(0, 0)", x.cut(0, 0), 5);
            due("run(0, 0, 3, 3)", x.run(0, 0, 3, 3), 4);
            due("run(0, 0, 3, 0)", x.run(0, 0, 3, 0), 14);
            due("program(0, 6)", x.program(0, 6), 2);
            due("cut(1, 0)", x.cut(1, 0), 6);
            due("run(1, 1, 3, 2)", x.run(1, 1, 3, 2), 4);
            due("run(1, 0, 3, 2)", x.run(1, 0, 3, 2), 1);
            due("program(1, 6)", x.program(1, 6), 2);
        });
        test("cut: what is around a cut [ or ? goes on behind it", () -> {
            PairedSteps x = with("[a[b[b]]!a;a=a-1;]!b;", "?a?b!b;:.!a;:?b:!b;.!c;.#;");
            due("cut(0, 1)", x.cut(0, 1), 4);
            due("run(0, 2, 1, 2)", x.run(0, 2, 1, 2), 3);
            due("cut(1, 1)", x.cut(1, 1), 6);
            due("run(1, 1, 1, 2)", x.run(1, 1, 1, 2), 1);
            due("told(1, 1, 7, 0)", x.told(1, 1, 7, 0), 1);
            due("run(1, 0, 0, 2)", x.run(1, 0, 0, 2), 2);
            due("cut(1, 2)", x.cut(1, 2), 4);
            due("run(1, 0, 0, 2)", x.run(1, 0, 0, 2), 1);
            due("run(1, 0, 0, 3)", x.run(1, 0, 0, 3), 1);
        });
        test("cut: Returns the number of statements that are left: 59 of 60, and none of one", () -> {
            PairedSteps x = with(times("#;", 60), "!a;");
            for (int left = 59; left >= 0; left--) {
                due("cut(0, 0)", x.cut(0, 0), left);
            }
            due("cut(1, 0)", x.cut(1, 0), 0);
        });
        test("cut: INVALID_ARGUMENT if there is no such program", () -> {
            PairedSteps x = with("#;", "#;");
            for (int program : NO_PROGRAMS) {
                due("cut(" + program + ", 0)", x.cut(program, 0), INVALID);
            }
            due("count(2)", x.count(2), 2);
        });
        test("cut: INVALID_ARGUMENT if there is no such statement: below 0", () -> {
            PairedSteps x = with("#;#;", "#;");
            for (int statement : new int[] {-1, -2, -60, LEAST}) {
                due("cut(0, " + statement + ")", x.cut(0, statement), INVALID);
            }
            due("count(0)", x.count(0), 2);
        });
        test("cut: INVALID_ARGUMENT if there is no such statement: the one behind the last, and beyond", () -> {
            PairedSteps x = with("#;#;", times("#;", 60));
            for (int statement : new int[] {2, 3, 59, 60, MOST}) {
                due("cut(0, " + statement + ")", x.cut(0, statement), INVALID);
            }
            due("cut(1, 60)", x.cut(1, 60), INVALID);
            due("cut(1, 59)", x.cut(1, 59), 59);
            due("cut(1, 59)", x.cut(1, 59), INVALID);
        });
        test("cut: INVALID_ARGUMENT if there is no such statement: an empty program has none", () -> {
            PairedSteps x = with("", "#;");
            due("cut(0, 0)", x.cut(0, 0), INVALID);
            due("count(2)", x.count(2), 2);
        });
    }

    // ---- Promise 8

    private static void undo() {
        test("undo: ILLEGAL_STATE if the history is empty: of a new object", () -> {
            PairedSteps x = new PairedSteps();
            due("undo()", x.undo(), STATE);
            due("undo()", x.undo(), STATE);
            due("count(2)", x.count(2), 0);
        });
        test("undo: ILLEGAL_STATE if the history is empty: behind the last state", () -> {
            PairedSteps x = with("#;", "!a;");
            due("undo()", x.undo(), 1);
            due("undo()", x.undo(), 0);
            due("undo()", x.undo(), STATE);
            due("count(0)", x.count(0), 0);
        });
        test("undo: Returns the number of states that are left: from 4 to 0", () -> {
            PairedSteps x = new PairedSteps();
            for (int action = 0; action < 9; action++) {
                x.exchange();
            }
            for (int left = 4; left >= 0; left--) {
                due("undo()", x.undo(), left);
                due("count(2)", x.count(2), left);
            }
        });
        test("undo: Removes the latest state: it is no action itself", () -> {
            PairedSteps x = with("#;", "");
            x.undo();
            due("count(2)", x.count(2), 1);
            x.undo();
            due("count(0)", x.count(0), 0);
            due("count(2)", x.count(2), 0);
        });
        test("undo: restores both programs, behind each of the actions", () -> {
            String[] sizes = {"#;", "!a;!a;"};
            for (int action = 0; action <= 4; action++) {
                PairedSteps x = with(sizes[0], sizes[1]);
                if (action <= 1) {
                    due("read(" + action + ")", readText(x, action, "#;#;#;"), 3);
                } else if (action == 2) {
                    due("copy()", x.copy(), 1);
                } else if (action == 3) {
                    due("exchange()", x.exchange(), 2);
                } else {
                    due("cut(0, 0)", x.cut(0, 0), 0);
                }
                due("undo() behind the action " + action, x.undo(), 2);
                due("program(0, 3) behind the action " + action, x.program(0, 3), 1);
                due("count(0) behind the action " + action, x.count(0), 1);
                due("program(1, 2) behind the action " + action, x.program(1, 2), 2);
                due("count(1) behind the action " + action, x.count(1), 2);
            }
        });
        test("undo: an action behind it is recorded in place of what was undone", () -> {
            PairedSteps x = with("#;", "!a;");
            x.undo();
            x.exchange();
            due("count(2)", x.count(2), 2);
            due("undo()", x.undo(), 1);
            due("count(0)", x.count(0), 1);
            due("count(1)", x.count(1), 0);
        });
    }

    // ---- Promise 9

    private static void count() {
        test("count: 0 and 1 the statements of the programs: none and 60", () -> {
            PairedSteps x = with(times("#;", 60), "");
            due("count(0)", x.count(0), 60);
            due("count(1)", x.count(1), 0);
        });
        test("count: 2 the number of states in the history: 0 and 5", () -> {
            PairedSteps x = new PairedSteps();
            due("count(2)", x.count(2), 0);
            for (int action = 0; action < 8; action++) {
                x.copy();
            }
            due("count(2)", x.count(2), 5);
        });
        test("count: 3 the length of the text: 0 and 120", () -> {
            PairedSteps x = new PairedSteps();
            due("count(3)", x.count(3), 0);
            type(x, times(" ", 120));
            due("count(3)", x.count(3), 120);
        });
        test("count: INVALID_ARGUMENT if what is out of range", () -> {
            PairedSteps x = with("#;", "#;");
            for (int what : new int[] {-1, 4, LEAST, MOST, 256, 65536}) {
                due("count(" + what + ")", x.count(what), INVALID);
            }
        });
    }

    // ---- Promise 10

    private static void program() {
        test("program: 0 its statements, 1 to 5 those of a kind: none of them, and 60", () -> {
            PairedSteps x = with(times("#;", 60), "");
            int[] zeroth = {60, 0, 0, 60, 0, 0};
            for (int what = 0; what <= 5; what++) {
                due("program(0, " + what + ")", x.program(0, what), zeroth[what]);
                due("program(1, " + what + ")", x.program(1, what), 0);
            }
        });
        test("program: 1 to 5: each kind for itself, also what is nested", () -> {
            PairedSteps x = with("?aa=1;!a;#;[b?c:.?d:.]:b=1;c=1;[e].!b;!c;", "");
            int[] wants = {12, 3, 3, 1, 2, 3};
            for (int what = 0; what <= 5; what++) {
                due("program(0, " + what + ")", x.program(0, what), wants[what]);
            }
        });
        test("program: 6 how deep [ and ? are nested: 0 without any", () -> {
            due("program(0, 6)", new PairedSteps().program(0, 6), 0);
            due("program(0, 6)", with("a=1;!a;#;", "").program(0, 6), 0);
        });
        test("program: 6 how deep [ and ? are nested: from 1 to 5", () -> {
            for (int depth = 1; depth <= 5; depth++) {
                String loops = times("[a", depth) + times("]", depth);
                String choices = times("?a", depth) + times(":.", depth);
                due("program(0, 6)", with(loops, "").program(0, 6), depth);
                due("program(0, 6)", with(choices, "").program(0, 6), depth);
                due("program(0, 6)", with("[a]" + choices + "[b]", "").program(0, 6), depth);
                due("program(0, 6)", with("?a:" + times("[a", depth - 1) + times("]", depth - 1) + ".", "")
                    .program(0, 6), depth);
            }
        });
        test("program: 6 how deep: what stands side by side is no deeper", () ->
            due("program(0, 6)", with("[a][b]?c[d]:[e].[f]", "").program(0, 6), 2));
        test("program: 7 the set of the cells that it can set: none, each one, all", () -> {
            due("program(0, 7)", new PairedSteps().program(0, 7), 0);
            due("program(0, 7)", with("!a;[b]?c:.#;", "").program(0, 7), 0);
            int bit = 1;
            for (char cell = 'a'; cell <= 'f'; cell++) {
                due("program(0, 7)", with(cell + "=a+f;", "").program(0, 7), bit);
                bit *= 2;
            }
            due("program(0, 7)", with("a=0;b=0;c=0;d=0;e=0;f=0;", "").program(0, 7), 63);
        });
        test("program: 7 a cell that is set twice, or in [ or ?, is in the set once", () -> {
            due("program(0, 7)", with("b=1;b=2;", "").program(0, 7), 2);
            due("program(0, 7)", with("[ab=1;]?ad=1;:e=1;.", "").program(0, 7), 2 + 8 + 16);
        });
        test("program: 7 is a property of a program: also a cell that no run sets, or that is set to itself", () -> {
            due("program(0, 7)", with("[cd=1;]", "").program(0, 7), 8);
            due("program(0, 7)", with("c=1;?c:e=2;.[c]f=3;", "").program(0, 7), 4 + 16 + 32);
            due("program(0, 7)", with("b=b;", "").program(0, 7), 2);
        });
        test("program: what has been cut out counts no more", () -> {
            PairedSteps x = with("b=1;a=1;!a;[a?b:.]", "");
            x.cut(0, 3);
            due("program(0, 4)", x.program(0, 4), 0);
            due("program(0, 5)", x.program(0, 5), 0);
            due("program(0, 6)", x.program(0, 6), 0);
            x.cut(0, 2);
            due("program(0, 2)", x.program(0, 2), 0);
            x.cut(0, 1);
            due("program(0, 1)", x.program(0, 1), 1);
            due("program(0, 7)", x.program(0, 7), 2);
            x.cut(0, 0);
            due("program(0, 7)", x.program(0, 7), 0);
        });
        test("program: INVALID_ARGUMENT if an argument is out of range: program", () -> {
            PairedSteps x = with("#;", "#;");
            for (int program : NO_PROGRAMS) {
                due("program(" + program + ", 0)", x.program(program, 0), INVALID);
            }
        });
        test("program: INVALID_ARGUMENT if an argument is out of range: what", () -> {
            PairedSteps x = with("#;", "#;");
            for (int what : new int[] {-1, 8, LEAST, MOST, 256}) {
                due("program(0, " + what + ")", x.program(0, what), INVALID);
                due("program(1, " + what + ")", x.program(1, what), INVALID);
            }
        });
    }

    // ---- Promise 11

    private static void run() {
        test("run: INVALID_ARGUMENT if an argument is out of range: program", () -> {
            PairedSteps x = with("#;", "#;#;");
            for (int program : NO_PROGRAMS) {
                due("run(" + program + ", 0, 0, 0)", x.run(program, 0, 0, 0), INVALID);
            }
            due("run(0, 0, 0, 0)", x.run(0, 0, 0, 0), 1);
            due("run(1, 0, 0, 0)", x.run(1, 0, 0, 0), 2);
        });
        test("run: INVALID_ARGUMENT if an argument is out of range: first", () -> {
            PairedSteps x = with("#;", "");
            for (int first : NO_INPUTS) {
                due("run(0, " + first + ", 0, 0)", x.run(0, first, 0, 0), INVALID);
            }
            due("run(0, -999, 0, 0)", x.run(0, -999, 0, 0), 1);
            due("run(0, 999, 0, 0)", x.run(0, 999, 0, 0), 1);
        });
        test("run: INVALID_ARGUMENT if an argument is out of range: second", () -> {
            PairedSteps x = with("#;", "");
            for (int second : NO_INPUTS) {
                due("run(0, 0, " + second + ", 0)", x.run(0, 0, second, 0), INVALID);
            }
            due("run(0, 0, -999, 0)", x.run(0, 0, -999, 0), 1);
            due("run(0, 0, 999, 0)", x.run(0, 0, 999, 0), 1);
        });
        test("run: INVALID_ARGUMENT if an argument is out of range: what", () -> {
            PairedSteps x = with("#;", "");
            for (int what : new int[] {-1, 6, LEAST, MOST, 256}) {
                due("run(0, 0, 0, " + what + ")", x.run(0, 0, 0, what), INVALID);
            }
        });
        test("run: 0 the number of steps: 0 of the empty program, 400 at most", () -> {
            PairedSteps x = with("[a]", "");
            due("run(1, 5, 5, 0)", x.run(1, 5, 5, 0), 0);
            due("run(0, 1, 0, 0)", x.run(0, 1, 0, 0), 400);
        });
        test("run: 1 1 if it is cut off and 0 if not: 400 steps, and one more", () -> {
            PairedSteps x = with("#;[aa=a-1;]", "#;#;#;[aa=a-1;]");
            due("run(0, 199, 0, 0)", x.run(0, 199, 0, 0), 400);
            due("run(0, 199, 0, 1)", x.run(0, 199, 0, 1), 0);
            due("run(1, 198, 0, 0)", x.run(1, 198, 0, 0), 400);
            due("run(1, 198, 0, 1)", x.run(1, 198, 0, 1), 0);
            due("run(0, 200, 0, 0)", x.run(0, 200, 0, 0), 400);
            due("run(0, 200, 0, 1)", x.run(0, 200, 0, 1), 1);
            PairedSteps y = with("[aa=a-1;]", "");
            due("run(0, 199, 0, 1)", y.run(0, 199, 0, 1), 0);
            due("run(0, 200, 0, 0)", y.run(0, 200, 0, 0), 400);
            due("run(0, 200, 0, 1)", y.run(0, 200, 0, 1), 1);
        });
        test("run: 2 the number of all values that are put out: also above 40", () -> {
            PairedSteps x = with("[a!a;a=a-1;]", "");
            due("run(0, 0, 0, 2)", x.run(0, 0, 0, 2), 0);
            due("run(0, 40, 0, 2)", x.run(0, 40, 0, 2), 40);
            due("run(0, 41, 0, 2)", x.run(0, 41, 0, 2), 41);
            due("run(0, 133, 0, 2)", x.run(0, 133, 0, 2), 133);
        });
        test("run: 3 the number of all marks (also above 40)", () -> {
            PairedSteps x = with("[a#;a=a-1;]", "");
            due("run(0, 0, 0, 3)", x.run(0, 0, 0, 3), 0);
            due("run(0, 40, 0, 3)", x.run(0, 40, 0, 3), 40);
            due("run(0, 41, 0, 3)", x.run(0, 41, 0, 3), 41);
            due("run(0, 133, 0, 3)", x.run(0, 133, 0, 3), 133);
        });
    }

    private static void rounds() {
        test("run: 4 the number of rounds of all loops that began: none", () -> {
            PairedSteps x = with("#;?a:.[b]", "");
            due("run(0, 1, 0, 4)", x.run(0, 1, 0, 4), 0);
            due("run(1, 1, 1, 4)", x.run(1, 1, 1, 4), 0);
        });
        test("run: 4 the number of rounds of all loops that began: of loops in loops and behind them", () -> {
            PairedSteps x = with("[ac=2;[cc=c-1;]a=a-1;][bb=b-1;]", "");
            due("run(0, 3, 4, 4)", x.run(0, 3, 4, 4), 13);
        });
        test("run: 4 the rounds that began: one that is not ended when the run is cut off counts", () -> {
            due("run(0, 1, 0, 4)", with("[a]", "").run(0, 1, 0, 4), 400);
            due("run(0, 1, 0, 4)", with("[a#;#;]", "").run(0, 1, 0, 4), 134);
            due("run(0, 1, 0, 4)", with("[a#;#;#;]", "").run(0, 1, 0, 4), 100);
        });
        test("run: 5 the greatest number of rounds of a [: 0 without any", () -> {
            PairedSteps x = with("#;[b]", "");
            due("run(0, 1, 0, 5)", x.run(0, 1, 0, 5), 0);
            due("run(1, 1, 0, 5)", x.run(1, 1, 0, 5), 0);
        });
        test("run: 5 between the step at which it was come to and the next one at which it was left", () -> {
            PairedSteps x = with("[ac=2;[cc=c-1;]a=a-1;]", "");
            due("run(0, 1, 0, 5)", x.run(0, 1, 0, 5), 2);
            due("run(0, 2, 0, 5)", x.run(0, 2, 0, 5), 2);
            due("run(0, 3, 0, 5)", x.run(0, 3, 0, 5), 3);
        });
        test("run: 5 the greatest number: the first, a middle or the last time that it was come to", () -> {
            due("the first", with("[bc=b;[cc=c-1;]b=b-4;]", "").run(0, 0, 7, 5), 7);
            due("a middle one", with("b=3;[bc=b-2;c=c*c;c=5-c;[cc=c-1;]b=b-1;]", "").run(0, 0, 0, 5), 5);
            due("the last", with("b=2;[bc=7-b;[cc=c-1;]b=b-1;]", "").run(0, 0, 0, 5), 6);
        });
        test("run: 5 of a [: the rounds of two loops are not added", () -> {
            PairedSteps x = with("[aa=a-1;][bb=b-1;]", "");
            due("run(0, 3, 4, 5)", x.run(0, 3, 4, 5), 4);
            due("run(0, 4, 3, 5)", x.run(0, 4, 3, 5), 4);
            due("run(0, 4, 4, 5)", x.run(0, 4, 4, 5), 4);
        });
        test("run: 5 or the run was cut off: the rounds up to there", () -> {
            due("run(0, 1, 0, 5)", with("[a]", "").run(0, 1, 0, 5), 400);
            due("run(0, 1, 0, 5)", with("[a#;]", "").run(0, 1, 0, 5), 200);
            due("run(0, 1, 1, 5)", with("#;[a[b]]", "").run(0, 1, 1, 5), 398);
        });
        test("run: 5 or the run was cut off: the next run begins with none", () -> {
            PairedSteps x = with("[a]", "");
            for (int time = 0; time < 3; time++) {
                due("run(0, 1, 0, 5)", x.run(0, 1, 0, 5), 400);
            }
            due("run(0, 0, 0, 5)", x.run(0, 0, 0, 5), 0);
        });
    }

    // ---- Promise 12

    private static void told() {
        test("told: INVALID_ARGUMENT if an argument is out of range: program", () -> {
            PairedSteps x = with("!a;", "!b;");
            for (int program : NO_PROGRAMS) {
                due("told(" + program + ", 0, 0, 0)", x.told(program, 0, 0, 0), INVALID);
            }
            due("told(0, 5, 6, 0)", x.told(0, 5, 6, 0), 5);
            due("told(1, 5, 6, 0)", x.told(1, 5, 6, 0), 6);
        });
        test("told: INVALID_ARGUMENT if an argument is out of range: first", () -> {
            PairedSteps x = with("!a;", "");
            for (int first : NO_INPUTS) {
                due("told(0, " + first + ", 0, 0)", x.told(0, first, 0, 0), INVALID);
            }
            due("told(0, -999, 0, 0)", x.told(0, -999, 0, 0), -999);
            due("told(0, 999, 0, 0)", x.told(0, 999, 0, 0), 999);
        });
        test("told: INVALID_ARGUMENT if an argument is out of range: second", () -> {
            PairedSteps x = with("!b;", "");
            for (int second : NO_INPUTS) {
                due("told(0, 0, " + second + ", 0)", x.told(0, 0, second, 0), INVALID);
            }
            due("told(0, 0, -999, 0)", x.told(0, 0, -999, 0), -999);
            due("told(0, 0, 999, 0)", x.told(0, 0, 999, 0), 999);
        });
        test("told: INVALID_ARGUMENT if index is negative", () -> {
            PairedSteps x = with("!a;", "");
            for (int index : new int[] {-1, -2, -40, LEAST}) {
                due("told(0, 0, 0, " + index + ")", x.told(0, 0, 0, index), INVALID);
                due("told(1, 0, 0, " + index + ")", x.told(1, 0, 0, index), INVALID);
            }
        });
        test("told: NONE if not so many are kept: the one behind the last, and beyond", () -> {
            PairedSteps x = with("!a;!b;", "");
            due("told(0, 3, 4, 1)", x.told(0, 3, 4, 1), 4);
            for (int index : new int[] {2, 3, 39, 40, MOST}) {
                due("told(0, 3, 4, " + index + ")", x.told(0, 3, 4, index), NONE);
            }
            due("told(1, 3, 4, 0)", x.told(1, 3, 4, 0), NONE);
        });
        test("told: NONE if not so many are kept: of 40 and of 41 values the one with the index 40", () -> {
            PairedSteps x = with("[a!b;b=b+1;a=a-1;]", "");
            due("told(0, 40, 0, 39)", x.told(0, 40, 0, 39), 39);
            due("told(0, 40, 0, 40)", x.told(0, 40, 0, 40), NONE);
            due("told(0, 41, 0, 39)", x.told(0, 41, 0, 39), 39);
            due("told(0, 41, 0, 40)", x.told(0, 41, 0, 40), NONE);
        });
        test("told: NONE if not so many are kept: a value of a run before it is not told", () -> {
            PairedSteps x = with("[a!a;a=a-1;]", "");
            due("told(0, 9, 0, 8)", x.told(0, 9, 0, 8), 1);
            due("told(0, 8, 0, 8)", x.told(0, 8, 0, 8), NONE);
            due("told(0, 0, 0, 0)", x.told(0, 0, 0, 0), NONE);
        });
        test("told: of a run that is cut off: what it told up to there", () -> {
            PairedSteps x = with("!b;[a]!b;", "");
            due("told(0, 1, 7, 0)", x.told(0, 1, 7, 0), 7);
            due("told(0, 1, 7, 1)", x.told(0, 1, 7, 1), NONE);
        });
    }

    // ---- Promise 13

    private static void cell() {
        test("cell: INVALID_ARGUMENT if an argument is out of range: program", () -> {
            PairedSteps x = with("#;", "c=1;#;");
            for (int program : NO_PROGRAMS) {
                due("cell(" + program + ", 0, 0, 0, 0)", x.cell(program, 0, 0, 0, 0), INVALID);
                due("cell(" + program + ", 0, 0, -1, 0)", x.cell(program, 0, 0, -1, 0), INVALID);
            }
            due("cell(0, 0, 0, 0, 2)", x.cell(0, 0, 0, 0, 2), 0);
            due("cell(1, 0, 0, 0, 2)", x.cell(1, 0, 0, 0, 2), 1);
        });
        test("cell: INVALID_ARGUMENT if an argument is out of range: first", () -> {
            PairedSteps x = with("#;", "");
            for (int first : NO_INPUTS) {
                due("cell(0, " + first + ", 0, 0, 0)", x.cell(0, first, 0, 0, 0), INVALID);
                due("cell(0, " + first + ", 0, -1, 0)", x.cell(0, first, 0, -1, 0), INVALID);
            }
            due("cell(0, -999, 0, 0, 0)", x.cell(0, -999, 0, 0, 0), -999);
            due("cell(0, 999, 0, -1, 0)", x.cell(0, 999, 0, -1, 0), 999);
        });
        test("cell: INVALID_ARGUMENT if an argument is out of range: second", () -> {
            PairedSteps x = with("#;", "");
            for (int second : NO_INPUTS) {
                due("cell(0, 0, " + second + ", 0, 1)", x.cell(0, 0, second, 0, 1), INVALID);
                due("cell(0, 0, " + second + ", -1, 1)", x.cell(0, 0, second, -1, 1), INVALID);
            }
            due("cell(0, 0, -999, 0, 1)", x.cell(0, 0, -999, 0, 1), -999);
            due("cell(0, 0, 999, -1, 1)", x.cell(0, 0, 999, -1, 1), 999);
        });
        test("cell: INVALID_ARGUMENT if an argument is out of range: cell", () -> {
            PairedSteps x = with("#;#;", "");
            for (int cell : NO_CELLS) {
                due("cell(0, 0, 0, 0, " + cell + ")", x.cell(0, 0, 0, 0, cell), INVALID);
                due("cell(0, 0, 0, 1, " + cell + ")", x.cell(0, 0, 0, 1, cell), INVALID);
                due("cell(0, 0, 0, -1, " + cell + ")", x.cell(0, 0, 0, -1, cell), INVALID);
                due("cell(0, 0, 0, 9, " + cell + ")", x.cell(0, 0, 0, 9, cell), INVALID);
            }
        });
        test("cell: INVALID_ARGUMENT if mark is below -1", () -> {
            PairedSteps x = with("#;", "");
            for (int mark : new int[] {-2, -3, -40, LEAST}) {
                due("cell(0, 0, 0, " + mark + ", 0)", x.cell(0, 0, 0, mark, 0), INVALID);
            }
        });
        test("cell: -1 behind the run: of a run without a mark too", () -> {
            PairedSteps x = with("a=a+1;", "");
            due("cell(0, 5, 6, -1, 0)", x.cell(0, 5, 6, -1, 0), 6);
            due("cell(1, 5, 6, -1, 0)", x.cell(1, 5, 6, -1, 0), 5);
            due("cell(1, 5, 6, -1, 1)", x.cell(1, 5, 6, -1, 1), 6);
        });
        test("cell: -1 behind the run: of one that is cut off", () -> {
            PairedSteps x = with("[ab=b+1;]b=7;", "");
            due("cell(0, 1, 0, -1, 1)", x.cell(0, 1, 0, -1, 1), 200);
        });
        test("cell: 0 to 5: each of them, at a mark and behind the run", () -> {
            PairedSteps x = with("c=12;d=13;e=14;f=15;#;a=20;b=21;c=22;d=23;e=24;f=25;", "");
            for (int cell = 0; cell <= 5; cell++) {
                due("cell(0, 10, 11, 0, " + cell + ")", x.cell(0, 10, 11, 0, cell), 10 + cell);
                due("cell(0, 10, 11, -1, " + cell + ")", x.cell(0, 10, 11, -1, cell), 20 + cell);
            }
        });
        test("cell: NONE if not so many marks are kept: the one behind the last, and beyond", () -> {
            PairedSteps x = with("#;#;", "");
            due("cell(0, 3, 4, 1, 1)", x.cell(0, 3, 4, 1, 1), 4);
            for (int mark : new int[] {2, 3, 39, 40, MOST}) {
                due("cell(0, 3, 4, " + mark + ", 1)", x.cell(0, 3, 4, mark, 1), NONE);
            }
            due("cell(1, 3, 4, 0, 1)", x.cell(1, 3, 4, 0, 1), NONE);
        });
        test("cell: NONE if not so many marks are kept: none whose sixfold wraps around", () -> {
            PairedSteps x = with("#;#;", "");
            for (int mark : new int[] {715827883, 1431655766, 357913942, 1 << 30, (1 << 30) + 1, 1 << 16}) {
                due("cell(0, 3, 4, " + mark + ", 0)", x.cell(0, 3, 4, mark, 0), NONE);
            }
        });
        test("cell: NONE if not so many marks are kept: of 40 and of 41 marks the mark 40", () -> {
            PairedSteps x = with("[a#;b=b+1;a=a-1;]", "");
            due("cell(0, 40, 0, 39, 1)", x.cell(0, 40, 0, 39, 1), 39);
            due("cell(0, 40, 0, 40, 1)", x.cell(0, 40, 0, 40, 1), NONE);
            due("cell(0, 41, 0, 39, 1)", x.cell(0, 41, 0, 39, 1), 39);
            due("cell(0, 41, 0, 40, 1)", x.cell(0, 41, 0, 40, 1), NONE);
        });
        test("cell: NONE if not so many marks are kept: a mark of a run before it is not there", () -> {
            PairedSteps x = with("[a#;a=a-1;]", "");
            due("cell(0, 9, 0, 8, 0)", x.cell(0, 9, 0, 8, 0), 1);
            due("cell(0, 8, 0, 8, 0)", x.cell(0, 8, 0, 8, 0), NONE);
        });
    }

    // ---- Promise 14

    private static void pairs() {
        test("pairs: INVALID_ARGUMENT if an argument is out of range: first", () -> {
            PairedSteps x = with("#;", "#;");
            for (int first : NO_INPUTS) {
                due("pairs(" + first + ", 0, 0)", x.pairs(first, 0, 0), INVALID);
            }
            due("pairs(-999, 0, 0)", x.pairs(-999, 0, 0), 1);
            due("pairs(999, 0, 0)", x.pairs(999, 0, 0), 1);
        });
        test("pairs: INVALID_ARGUMENT if an argument is out of range: second", () -> {
            PairedSteps x = with("#;", "#;");
            for (int second : NO_INPUTS) {
                due("pairs(0, " + second + ", 0)", x.pairs(0, second, 0), INVALID);
            }
            due("pairs(0, -999, 0)", x.pairs(0, -999, 0), 1);
            due("pairs(0, 999, 0)", x.pairs(0, 999, 0), 1);
        });
        test("pairs: INVALID_ARGUMENT if an argument is out of range: what", () -> {
            PairedSteps x = with("#;", "#;");
            for (int what : new int[] {-1, 4, LEAST, MOST, 256}) {
                due("pairs(0, 0, " + what + ")", x.pairs(0, 0, what), INVALID);
            }
        });
        test("pairs: 0 their number: none, one, 40 at most", () -> {
            PairedSteps x = with("[a#;]", "[a#;]#;");
            due("pairs(0, 0, 0)", x.pairs(0, 0, 0), 0);
            due("pairs(1, 0, 0)", x.pairs(1, 0, 0), 40);
            due("pairs(0, 0, 0)", with("#;", "#;#;").pairs(0, 0, 0), 1);
        });
        test("pairs: 1 the greatest size of a lead: of one below 0 too", () -> {
            PairedSteps x = with("#;#;a=a;#;", "a=a;#;a=a;a=a;#;#;");
            due("pairs(0, 0, 1)", x.pairs(0, 0, 1), 3);
            due("pairs(0, 0, 2)", x.pairs(0, 0, 2), -2);
            x.exchange();
            due("pairs(0, 0, 1)", x.pairs(0, 0, 1), 3);
            due("pairs(0, 0, 2)", x.pairs(0, 0, 2), 2);
        });
        test("pairs: 1 the greatest size of a lead: 0 if neither is ahead", () ->
            due("pairs(0, 0, 1)", with("#;#;", "#;#;").pairs(0, 0, 1), 0));
        test("pairs: 2 the lead of the last pair: not of the last mark", () -> {
            due("pairs(0, 0, 2)", with("#;a=1;a=1;#;", "#;").pairs(0, 0, 2), 0);
            due("pairs(0, 0, 2)", with("a=1;#;", "#;a=1;a=1;#;").pairs(0, 0, 2), 1);
        });
        test("pairs: 2 the lead of the last pair: of 40", () -> {
            String loop = "[a#;a=a-1;]";
            due("pairs(39, 0, 2)", with(loop + "c=c;c=c;#;", loop + "#;").pairs(39, 0, 2), 2);
            due("pairs(40, 0, 2)", with(loop + "c=c;c=c;#;", loop + "#;").pairs(40, 0, 2), 0);
        });
        test("pairs: NONE for 1 and 2 if there are no pairs", () -> {
            due("pairs(0, 0, 1)", with("#;", "").pairs(0, 0, 1), NONE);
            due("pairs(0, 0, 2)", with("#;", "").pairs(0, 0, 2), NONE);
            due("pairs(0, 0, 1)", with("", "#;").pairs(0, 0, 1), NONE);
            due("pairs(0, 0, 2)", with("", "#;").pairs(0, 0, 2), NONE);
            due("pairs(0, 0, 1)", new PairedSteps().pairs(0, 0, 1), NONE);
            due("pairs(0, 0, 2)", new PairedSteps().pairs(0, 0, 2), NONE);
        });
        test("pairs: 0 and 3 are 0 if there are no pairs", () -> {
            due("pairs(0, 0, 0)", with("#;", "").pairs(0, 0, 0), 0);
            due("pairs(0, 0, 3)", with("#;", "").pairs(0, 0, 3), 0);
            due("pairs(0, 0, 3)", with("", "#;").pairs(0, 0, 3), 0);
        });
        test("pairs: 3 the pairs at which all cells are equal: each cell counts", () -> {
            for (char cell = 'a'; cell <= 'f'; cell++) {
                PairedSteps x = with("#;" + cell + "=7;#;" + cell + "=8;#;", "#;" + cell + "=6;#;" + cell + "=8;#;");
                due("pairs(0, 0, 3) with " + cell, x.pairs(0, 0, 3), 2);
            }
        });
        test("pairs: 3 all of 40 pairs, and the last one not", () -> {
            String loop = "[a#;a=a-1;]";
            due("pairs(39, 0, 3)", with(loop + "c=1;#;", loop + "#;").pairs(39, 0, 3), 39);
            due("pairs(40, 0, 3)", with(loop + "c=1;#;", loop + "#;").pairs(40, 0, 3), 40);
        });
    }

    // ---- Promise 15

    private static void equal() {
        test("equal: INVALID_ARGUMENT if an argument is out of range: first", () -> {
            PairedSteps x = with("#;", "#;");
            for (int first : NO_INPUTS) {
                due("equal(" + first + ", 0, 0)", x.equal(first, 0, 0), INVALID);
            }
            due("equal(-999, 0, 0)", x.equal(-999, 0, 0), 1);
            due("equal(999, 0, 0)", x.equal(999, 0, 0), 1);
        });
        test("equal: INVALID_ARGUMENT if an argument is out of range: second", () -> {
            PairedSteps x = with("#;", "#;");
            for (int second : NO_INPUTS) {
                due("equal(0, " + second + ", 0)", x.equal(0, second, 0), INVALID);
            }
            due("equal(0, -999, 1)", x.equal(0, -999, 1), 2);
            due("equal(0, 999, 1)", x.equal(0, 999, 1), 2);
        });
        test("equal: INVALID_ARGUMENT if an argument is out of range: cell", () -> {
            PairedSteps x = with("#;", "");
            for (int cell : NO_CELLS) {
                due("equal(0, 0, " + cell + ")", x.equal(0, 0, cell), INVALID);
            }
        });
        test("equal: 63 if there are no pairs", () -> {
            for (int cell = 0; cell <= 5; cell++) {
                due("equal(1, 2, " + cell + ")", with("#;", "").equal(1, 2, cell), 63);
                due("equal(1, 2, " + cell + ")", with("", "#;").equal(1, 2, cell), 63);
                due("equal(1, 2, " + cell + ")", with("", "").equal(1, 2, cell), 63);
            }
        });
        test("equal: the set of these cells, bit by bit: none, each one, all", () -> {
            PairedSteps x = with("#;", "a=1;b=2;c=3;d=4;e=5;f=6;#;");
            due("equal(7, 0, 0)", x.equal(7, 0, 0), 0);
            for (int value = 1; value <= 6; value++) {
                due("equal(" + value + ", 0, 0)", x.equal(value, 0, 0), 1 << (value - 1));
                due("equal(0, " + value + ", 1)", x.equal(0, value, 1), 1 << (value - 1));
            }
            due("equal(0, 0, 5)", with("#;", "#;").equal(0, 0, 5), 63);
        });
        test("equal: cell: 0 to 5, of the program 0", () -> {
            PairedSteps x = with("a=1;b=2;c=3;d=4;e=5;f=6;#;", "#;");
            due("equal(1, 6, 0)", x.equal(1, 6, 0), 1);
            due("equal(1, 6, 5)", x.equal(1, 6, 5), 2);
            due("equal(1, 6, 4)", x.equal(1, 6, 4), 0);
        });
        test("equal: at all pairs: the first or the last one is enough to part them", () -> {
            due("the first", with("c=1;#;c=0;#;#;", "#;#;#;").equal(5, 5, 2), 0);
            due("a middle one", with("#;c=1;#;c=0;#;", "#;#;#;").equal(5, 5, 2), 0);
            due("the last", with("#;#;c=1;#;", "#;#;#;").equal(5, 5, 2), 0);
            due("none", with("#;#;#;c=1;", "#;#;#;").equal(5, 5, 2), 60);
            due("a mark without a pair", with("#;#;#;c=1;#;", "#;#;#;").equal(5, 5, 2), 60);
        });
    }

    // ---- Promise 16

    private static void difference() {
        test("difference: INVALID_ARGUMENT if an argument is out of range: first", () -> {
            PairedSteps x = with("!a;", "");
            for (int first : NO_INPUTS) {
                due("difference(" + first + ", 0)", x.difference(first, 0), INVALID);
            }
            due("difference(-999, 0)", x.difference(-999, 0), 0);
            due("difference(999, 0)", x.difference(999, 0), 0);
        });
        test("difference: INVALID_ARGUMENT if an argument is out of range: second", () -> {
            PairedSteps x = with("!a;", "");
            for (int second : NO_INPUTS) {
                due("difference(0, " + second + ")", x.difference(0, second), INVALID);
            }
            due("difference(0, -999)", x.difference(0, -999), 0);
            due("difference(0, 999)", x.difference(0, 999), 0);
        });
        test("difference: NONE if there is none: both put out nothing", () -> {
            due("difference(0, 0)", new PairedSteps().difference(0, 0), NONE);
            due("difference(0, 0)", with("#;", "a=1;").difference(0, 0), NONE);
        });
        test("difference: NONE if there is none: both put out the same", () ->
            due("difference(3, 3)", with("!a;!b;", "!b;!a;").difference(3, 3), NONE));
        test("difference: among the first 40 values: another one with the number 39, and with 40", () -> {
            PairedSteps x = with("[a!c;a=a-1;]!a;", "[a!c;a=a-1;]d=1;!d;");
            due("difference(39, 0)", x.difference(39, 0), 39);
            due("difference(40, 0)", x.difference(40, 0), NONE);
        });
        test("difference: among the first 40 values: one that is missing with the number 39, and with 40", () -> {
            PairedSteps x = with("[a!c;a=a-1;]", "[a!c;a=a-1;]!c;");
            due("difference(39, 0)", x.difference(39, 0), 39);
            due("difference(40, 0)", x.difference(40, 0), NONE);
            x.exchange();
            due("difference(39, 0)", x.difference(39, 0), 39);
            due("difference(40, 0)", x.difference(40, 0), NONE);
        });
        test("difference: be the runs cut off or not: one is, and both are", () -> {
            due("one", with("!a;[a]", "!a;").difference(1, 0), NONE);
            due("one", with("!a;", "!a;[a]").difference(1, 0), NONE);
            due("both", with("!a;[a]", "!a;[a#;]").difference(1, 0), NONE);
            due("both, with 133 and 100 values", with("[a!a;b=b;]", "[a!a;b=b;b=b;]").difference(1, 0), NONE);
            due("one, with a value missing behind it", with("!a;[a]!b;", "!a;!b;").difference(1, 0), 1);
        });
    }

    // ---- Promise 17

    private static void agree() {
        test("agree: INVALID_ARGUMENT if an argument is out of range: lowest", () -> {
            PairedSteps x = new PairedSteps();
            for (int lowest : new int[] {-10, -11, LEAST, 10, MOST}) {
                due("agree(" + lowest + ", 9, 0)", x.agree(lowest, 9, 0), INVALID);
                due("agree(" + lowest + ", " + lowest + ", 0)", x.agree(lowest, lowest, 0), INVALID);
            }
            due("agree(-9, -9, 0)", x.agree(-9, -9, 0), 1);
            due("agree(9, 9, 0)", x.agree(9, 9, 0), 1);
        });
        test("agree: INVALID_ARGUMENT if an argument is out of range: highest above 9", () -> {
            PairedSteps x = new PairedSteps();
            for (int highest : new int[] {10, 11, 999, MOST}) {
                due("agree(0, " + highest + ", 0)", x.agree(0, highest, 0), INVALID);
                due("agree(9, " + highest + ", 0)", x.agree(9, highest, 0), INVALID);
            }
            due("agree(8, 9, 0)", x.agree(8, 9, 0), 4);
        });
        test("agree: INVALID_ARGUMENT if an argument is out of range: highest below lowest", () -> {
            PairedSteps x = new PairedSteps();
            int[][] ranges = {{1, 0}, {9, 8}, {-8, -9}, {-9, -10}, {0, LEAST}, {9, -9}};
            for (int[] r : ranges) {
                due("agree(" + r[0] + ", " + r[1] + ", 0)", x.agree(r[0], r[1], 0), INVALID);
            }
        });
        test("agree: INVALID_ARGUMENT if an argument is out of range: what", () -> {
            PairedSteps x = new PairedSteps();
            for (int what : new int[] {-1, 3, LEAST, MOST, 256}) {
                due("agree(0, 1, " + what + ")", x.agree(0, 1, what), INVALID);
            }
        });
        test("agree: from a lowest to a highest one: the range of one number is one input", () -> {
            PairedSteps x = with("!a;", "!b;");
            for (int number = -9; number <= 9; number++) {
                due("agree(" + number + ", " + number + ", 0)", x.agree(number, number, 0), 1);
            }
        });
        test("agree: from a lowest to a highest one: the widest range has 361 inputs", () -> {
            PairedSteps x = with("!a;!b;", "!a;!b;");
            due("agree(-9, 9, 0)", x.agree(-9, 9, 0), 361);
            due("agree(-9, 9, 1)", x.agree(-9, 9, 1), NONE);
        });
        test("agree: both ends of the range count, for both numbers", () -> {
            due("a is 2", with("!c;", "d=a-1;?d!d;:!c;.").agree(1, 2, 0), 2);
            due("b is 2", with("!c;", "d=b-1;?d!d;:!c;.").agree(1, 2, 0), 2);
            due("a is 1", with("!c;", "d=2-a;?d!d;:!c;.").agree(1, 2, 0), 2);
            due("b is 1", with("!c;", "d=2-b;?d!d;:!c;.").agree(1, 2, 0), 2);
        });
        test("agree: 0 on how many inputs they agree: on none", () -> {
            PairedSteps x = with("!c;", "");
            due("agree(-9, 9, 0)", x.agree(-9, 9, 0), 0);
            due("agree(-9, 9, 1)", x.agree(-9, 9, 1), -9);
            due("agree(-9, 9, 2)", x.agree(-9, 9, 2), -9);
        });
        test("agree: 1 and 2 the smallest first number, then the smallest second one", () -> {
            PairedSteps x = with("!c;", "d=a+b;d=d-3;?d!d;:!c;.");
            due("agree(0, 3, 0)", x.agree(0, 3, 0), 10);
            due("agree(0, 3, 1)", x.agree(0, 3, 1), 1);
            due("agree(0, 3, 2)", x.agree(0, 3, 2), 3);
        });
        test("agree: 1 and 2: the first and the last input of the range", () -> {
            PairedSteps x = with("!c;", "d=a+b;d=0-d;d=d-17;?d!d;:!c;.");
            due("agree(-9, 9, 0)", x.agree(-9, 9, 0), 360);
            due("agree(-9, 9, 1)", x.agree(-9, 9, 1), -9);
            due("agree(-9, 9, 2)", x.agree(-9, 9, 2), -9);
            PairedSteps y = with("!c;", "d=a+b;d=d-17;?d!d;:!c;.");
            due("agree(-9, 9, 0)", y.agree(-9, 9, 0), 360);
            due("agree(-9, 9, 1)", y.agree(-9, 9, 1), 9);
            due("agree(-9, 9, 2)", y.agree(-9, 9, 2), 9);
        });
        test("agree: NONE for 1 and 2 if they agree on all", () -> {
            PairedSteps x = with("!a;", "!a;#;");
            due("agree(0, 3, 0)", x.agree(0, 3, 0), 16);
            due("agree(0, 3, 1)", x.agree(0, 3, 1), NONE);
            due("agree(0, 3, 2)", x.agree(0, 3, 2), NONE);
            due("agree(-9, -9, 2)", new PairedSteps().agree(-9, -9, 2), NONE);
        });
    }

    // ---- Promise 18

    private static void always() {
        test("always: INVALID_ARGUMENT if cell is out of range", () -> {
            PairedSteps x = with("#;", "#;");
            for (int cell : NO_CELLS) {
                due("always(" + cell + ")", x.always(cell), INVALID);
            }
            due("always(0)", x.always(0), 1);
            due("always(5)", x.always(5), 60);
        });
        test("always: all cells if there is no pair on any input", () -> {
            due("always(0)", new PairedSteps().always(0), 63);
            due("always(5)", with("#;", "").always(5), 63);
            due("always(1)", with("c=0-a;[c#;]", "#;").always(1), 63);
        });
        test("always: an input without pairs takes no cell away", () -> {
            due("pairs if the first number is 3", with("c=a-2;[c#;c=0;]", "c=a-2;[c#;c=0;]").always(2), 4);
            due("always(0)", with("c=a-2;[cd=3;#;c=0;]", "c=a-2;[cd=3;#;c=0;]").always(0), 1 + 8);
        });
        test("always: inputs with numbers of 0 to 3: one of 4 does not count, one of 3 does", () -> {
            PairedSteps x = with("#;", "c=a-3;[cd=1;c=0;]c=0;#;");
            due("the first number 4", x.always(5), 60);
            PairedSteps y = with("#;", "c=a-2;[cd=1;c=0;]c=0;#;");
            due("the first number 3", y.always(5), 60 - 8);
            PairedSteps z = with("#;", "c=b-3;[cd=1;c=0;]c=0;#;");
            due("the second number 4", z.always(5), 60);
            PairedSteps w = with("#;", "c=b-2;[cd=1;c=0;]c=0;#;");
            due("the second number 3", w.always(5), 60 - 8);
        });
        test("always: inputs with numbers of 0 to 3: one below 0 does not count, one of 0 does", () -> {
            due("the first number -1", with("#;", "c=0-a;[cd=1;c=0;]c=0;#;").always(5), 60);
            due("the first number 0", with("#;", "c=1-a;[cd=1;c=0;]c=0;#;").always(5), 60 - 8);
            due("the second number -1", with("#;", "c=0-b;[cd=1;c=0;]c=0;#;").always(5), 60);
            due("the second number 0", with("#;", "c=1-b;[cd=1;c=0;]c=0;#;").always(5), 60 - 8);
        });
        test("always: all inputs with numbers of 0 to 3: each corner of them is enough to part them", () -> {
            due("0 0", with("#;", "c=1;?ac=0;:.?bc=0;:.[cd=1;c=0;]#;").always(5), 60 - 8);
            due("0 3", with("#;", "c=b-a;c=c-2;[cd=1;c=0;]c=0;#;").always(5), 60 - 8);
            due("3 0", with("#;", "c=a-b;c=c-2;[cd=1;c=0;]c=0;#;").always(5), 60 - 8);
            due("3 3", with("#;", "c=a*b;c=c-8;[cd=1;c=0;]c=0;#;").always(5), 60 - 8);
        });
        test("always: at all pairs of all inputs: only one pair of one input parts them", () ->
            due("always(5)", with("#;#;#;", "#;c=a*b;c=c-8;[cd=1;c=0;]c=0;#;d=0;#;").always(5), 60 - 8));
    }

    // ---- Promise 19

    private static void idle() {
        test("idle: INVALID_ARGUMENT if program is neither 0 nor 1", () -> {
            PairedSteps x = with("#;", "!a;#;");
            for (int program : NO_PROGRAMS) {
                due("idle(" + program + ")", x.idle(program), INVALID);
            }
            due("idle(0)", x.idle(0), 0);
            due("idle(1)", x.idle(1), 1);
        });
        test("idle: NONE if there is none: of the empty program", () -> {
            due("idle(0)", new PairedSteps().idle(0), NONE);
            due("idle(1)", new PairedSteps().idle(1), NONE);
        });
        test("idle: NONE if there is none: each statement is needed", () -> {
            due("idle(0)", with("!a;", "").idle(0), NONE);
            due("idle(0)", with("[a!a;a=a-1;]!b;", "").idle(0), NONE);
            due("idle(0)", with(times("!a;", 40), "").idle(0), NONE);
        });
        test("idle: the smallest number of such a statement: of several", () -> {
            due("idle(0)", with(times("#;", 60), "").idle(0), 0);
            due("idle(0)", with("!a;#;c=1;#;", "").idle(0), 1);
        });
        test("idle: the smallest number of such a statement: the last one may be it", () -> {
            due("idle(0)", with(times("!a;", 39) + "#;", "").idle(0), 39);
        });
        test("idle: a statement that can be cut out: [ and ? with all that is in them, ahead of what is in them", () -> {
            due("idle(0)", with("!a;[c!c;c=c-1;]", "").idle(0), 1);
            due("idle(0)", with("!a;?c!c;:#;.", "").idle(0), 1);
            due("idle(0)", with("!a;?c!c;:!b;.", "").idle(0), 2);
        });
        test("idle: all runs with numbers of 0 to 3: of 4 the statement may be needed, of 3 not", () -> {
            due("the first number 4", with("!b;c=a-3;?c!c;:.", "").idle(0), 1);
            due("the first number 3", with("!b;c=a-2;?c!c;:.", "").idle(0), NONE);
            due("the second number 4", with("!a;c=b-3;?c!c;:.", "").idle(0), 1);
            due("the second number 3", with("!a;c=b-2;?c!c;:.", "").idle(0), NONE);
        });
        test("idle: all runs with numbers of 0 to 3: below 0 the statement may be needed, at 0 not", () -> {
            due("the first number -1", with("!b;c=0-a;?c!c;:.", "").idle(0), 1);
            due("the first number 0", with("!b;c=1-a;?c!c;:.", "").idle(0), NONE);
            due("the second number -1", with("!a;c=0-b;?c!c;:.", "").idle(0), 1);
            due("the second number 0", with("!a;c=1-b;?c!c;:.", "").idle(0), NONE);
        });
        test("idle: all runs with numbers of 0 to 3: each corner of them may need a statement", () -> {
            due("0 0", with("!b;c=1;?ac=0;:.?bc=0;:.?c!c;:.", "").idle(0), NONE);
            due("0 3", with("!a;!b;c=b-a;c=c-2;?c!c;:.", "").idle(0), NONE);
            due("3 0", with("!a;!b;c=a-b;c=c-2;?c!c;:.", "").idle(0), NONE);
            due("3 3", with("!a;!b;c=a*b;c=c-8;?c!c;:.", "").idle(0), NONE);
        });
        test("idle: the same first 40 values: the value 39 counts, the value 40 does not", () -> {
            due("the value 39", with("a=39;[a!b;a=a-1;]c=1;!c;", "").idle(0), NONE);
            due("the value 40", with("a=40;[a!b;a=a-1;]c=1;!c;", "").idle(0), 4);
        });
        test("idle: the same number of all values, also above 40", () ->
            due("idle(0)", with("a=40;[a!b;a=a-1;]!b;!b;", "").idle(0), NONE));
        test("idle: cut off just if they were: a statement that cuts the run off is needed", () -> {
            due("idle(0)", with("!a;[a]", "").idle(0), NONE);
            due("idle(0)", with("!a;[a#;]", "").idle(0), 2);
        });
        test("idle: cut off just if they were: a statement that keeps it from that is needed", () -> {
            due("idle(0)", with("a=1;[aa=0;]", "").idle(0), 0);
            due("idle(0)", with("!b;c=1;[cc=0;]", "").idle(0), 1);
            due("idle(0)", with("!b;[aa=0;]", "").idle(0), 1);
        });
        test("idle: cut off just if they were: 400 steps or one more", () -> {
            String loop = "b=132;[bb=b-1;!c;]";
            due("400 steps", with(loop + "#;#;", "").idle(0), 4);
            due("one more, and without a # 400", with(loop + "#;#;#;", "").idle(0), NONE);
            due("two more, and without a # one more", with(loop + "#;#;#;#;", "").idle(0), 4);
        });
        test("idle: nothing changes by it", () -> {
            PairedSteps x = with("!a;#;", "!b;#;#;");
            x.idle(0);
            x.idle(1);
            due("count(0)", x.count(0), 2);
            due("count(1)", x.count(1), 3);
            due("count(2)", x.count(2), 2);
            due("run(0, 0, 0, 0)", x.run(0, 0, 0, 0), 2);
        });
    }
}
