/** What the tests with hand-worked answers share: a test extends it. */
abstract class Checks {
    static final int INVALID = -10001;
    static final int STATE = -10002;
    static final int FULL = -10003;
    static final int NONE = -10009;

    static final int LEAST = Integer.MIN_VALUE;
    static final int MOST = Integer.MAX_VALUE;
    /** Numbers that are no program: the nearest ones, the farthest ones, and such that wrap around to 0 and 1. */
    static final int[] NO_PROGRAMS = {-1, 2, LEAST, MOST, 256, 65536, LEAST + 1, MOST - 1};
    /** Numbers that no input has. */
    static final int[] NO_INPUTS = {-1000, 1000, LEAST, MOST, 65536, -65536};
    /** Numbers that are no cell. */
    static final int[] NO_CELLS = {-1, 6, LEAST, MOST, 32, 97};

    private static String sentence = "";
    private static int tests = 0;
    private static int wrong = 0;

    /** Runs the test of a sentence of the document. */
    static void test(String words, Runnable calls) {
        sentence = words;
        tests++;
        try {
            calls.run();
        } catch (RuntimeException thrown) {
            wrong++;
            System.out.println(sentence + "\n    " + thrown);
        }
    }

    static void due(String call, int got, int want) {
        if (got != want) {
            wrong++;
            System.out.println(sentence + "\n    " + call + " answered " + got + ", due is " + want);
        }
    }

    static void finish() {
        System.out.println(tests + " tests, " + (wrong == 0 ? "all answers are as due" : wrong + " answers are not as due"));
        if (wrong != 0 || tests == 0) {
            System.exit(1);
        }
    }

    static void type(PairedSteps x, String text) {
        x.clearText();
        for (int i = 0; i < text.length(); i++) {
            due("append(" + (int) text.charAt(i) + ") in \"" + text + "\"", x.append(text.charAt(i)), i + 1);
        }
    }

    static int readText(PairedSteps x, int program, String text) {
        type(x, text);
        return x.read(program);
    }

    /** An object with both programs, and two states in its history. */
    static PairedSteps with(String zeroth, String other) {
        PairedSteps x = new PairedSteps();
        mustRead(x, 0, zeroth);
        mustRead(x, 1, other);
        return x;
    }

    private static void mustRead(PairedSteps x, int program, String text) {
        int statements = readText(x, program, text);
        if (statements < 0) {
            due("read(" + program + ") of \"" + text + "\"", statements, 0);
        }
    }

    static void reads(String text, int want) {
        due("read(0) of \"" + text + "\"", readText(new PairedSteps(), 0, text), want);
    }

    static String times(String part, int times) {
        return part.repeat(times);
    }
}
