import java.util.ArrayDeque;
import java.util.ArrayList;
import java.util.Deque;
import java.util.List;

/** Random calls, answered by the program and by a slow model of the document that is built another way. */
public final class PairedStepsAgainstModel {
    private static final int INVALID = -10001;
    private static final int NONE = -10009;
    private static final int RUNS = 400;
    private static final int CALLS = 512;

    /** A statement as a tree; its kind is its first sign, "=" for one that sets a cell. */
    private record Node(char kind, int cell, String left, char operator, String right,
            List<Node> first, List<Node> second) {
    }

    private static final class TextFails extends Exception {
        private static final long serialVersionUID = 1;
        private final int place;

        TextFails(int place) {
            this.place = place;
        }
    }

    private static final class CutOff extends Exception {
        private static final long serialVersionUID = 1;
    }

    /** Reads by descent through the document's grammar. */
    private static final class Grammar {
        private final String text;
        private int place;
        private int statements;

        Grammar(String text) {
            this.text = text;
        }

        List<Node> whole() throws TextFails {
            List<Node> nodes = program(0);
            if (sign() != 0) {
                throw new TextFails(place);
            }
            return nodes;
        }

        private List<Node> program(int depth) throws TextFails {
            List<Node> nodes = new ArrayList<>();
            while (sign() != 0 && "abcdef!#[?".indexOf(sign()) >= 0) {
                nodes.add(statement(depth));
            }
            return nodes;
        }

        private Node statement(int depth) throws TextFails {
            if (++statements > 60) {
                throw new TextFails(place);
            }
            char kind = sign();
            if ((kind == '[' || kind == '?') && depth == 5) {
                throw new TextFails(place);
            }
            if (kind >= 'a') {
                return setting();
            }
            expect(kind);
            if (kind == '#') {
                expect(';');
                return new Node('#', 0, "", ' ', "", List.of(), List.of());
            }
            int cell = cell();
            if (kind == '!') {
                expect(';');
                return new Node('!', cell, "", ' ', "", List.of(), List.of());
            }
            List<Node> first = program(depth + 1);
            List<Node> second = new ArrayList<>();
            expect(kind == '[' ? ']' : ':');
            if (kind == '?') {
                second = program(depth + 1);
                expect('.');
            }
            return new Node(kind, cell, "", ' ', "", first, second);
        }

        private Node setting() throws TextFails {
            int cell = cell();
            expect('=');
            String left = term();
            char operator = sign();
            String right = "0";
            if (operator == '+' || operator == '-' || operator == '*') {
                expect(operator);
                right = term();
            } else {
                operator = '+';
            }
            expect(';');
            return new Node('=', cell, left, operator, right, List.of(), List.of());
        }

        private String term() throws TextFails {
            char first = sign();
            int begin = place;
            if (first >= 'a' && first <= 'f') {
                place++;
            } else if (first == '0') {
                place++;
            } else if (first >= '1' && first <= '9') {
                while (place < text.length() && place < begin + 3 && Character.isDigit(text.charAt(place))) {
                    place++;
                }
            } else {
                throw new TextFails(place);
            }
            return text.substring(begin, place);
        }

        private int cell() throws TextFails {
            char sign = sign();
            if (sign < 'a' || sign > 'f') {
                throw new TextFails(place);
            }
            place++;
            return sign - 'a';
        }

        private void expect(char sign) throws TextFails {
            if (sign() != sign) {
                throw new TextFails(place);
            }
            place++;
        }

        private char sign() {
            while (place < text.length() && text.charAt(place) == ' ') {
                place++;
            }
            return place < text.length() ? text.charAt(place) : 0;
        }
    }

    /** A run by recursion through the tree. */
    private static final class ModelRun {
        private final int[] cells = new int[6];
        private final List<Integer> values = new ArrayList<>();
        private final List<int[]> marks = new ArrayList<>();
        private final List<Integer> leads = new ArrayList<>();
        private int steps;
        private int rounds;
        private int mostRounds;
        private boolean cutOff;

        ModelRun(List<Node> program, int first, int second) {
            cells[0] = first;
            cells[1] = second;
            try {
                all(program);
            } catch (CutOff end) {
                cutOff = true;
            }
        }

        private void all(List<Node> nodes) throws CutOff {
            for (Node node : nodes) {
                one(node);
            }
        }

        private void step() throws CutOff {
            if (steps == 400) {
                throw new CutOff();
            }
            steps++;
        }

        private void one(Node node) throws CutOff {
            step();
            switch (node.kind()) {
                case '=' -> cells[node.cell()] = result(node);
                case '!' -> values.add(cells[node.cell()]);
                case '#' -> {
                    marks.add(cells.clone());
                    leads.add(steps - 1);
                }
                case '[' -> loop(node);
                default -> all(cells[node.cell()] > 0 ? node.first() : node.second());
            }
        }

        private void loop(Node node) throws CutOff {
            int begun = 0;
            while (cells[node.cell()] > 0) {
                rounds++;
                begun++;
                mostRounds = Math.max(mostRounds, begun);
                all(node.first());
                step();
            }
        }

        private int result(Node node) {
            int left = term(node.left());
            int right = term(node.right());
            int sum = node.operator() == '+' ? left + right : node.operator() == '-' ? left - right : left * right;
            return sum > 999 ? 999 : sum < -999 ? -999 : sum;
        }

        private int term(String term) {
            char first = term.charAt(0);
            return first >= 'a' ? cells[first - 'a'] : Integer.parseInt(term);
        }

        List<Integer> kept() {
            return values.subList(0, Math.min(40, values.size()));
        }

        int keptMarks() {
            return Math.min(40, marks.size());
        }

        boolean putsOutLike(ModelRun that) {
            return values.size() == that.values.size() && kept().equals(that.kept());
        }
    }

    /** The whole object as the document tells it. */
    private static final class Model {
        private String text = "";
        private List<List<Node>> programs = List.of(List.of(), List.of());
        private final Deque<List<List<Node>>> history = new ArrayDeque<>();

        private void act(List<Node> zeroth, List<Node> first) {
            history.addLast(programs);
            if (history.size() > 5) {
                history.removeFirst();
            }
            programs = List.of(zeroth, first);
        }

        private void actOn(int program, List<Node> changed) {
            act(program == 0 ? changed : programs.get(0), program == 1 ? changed : programs.get(1));
        }

        int append(int character) {
            if (character < 1 || character > 255) {
                return INVALID;
            }
            if (text.length() == 120) {
                return -10003;
            }
            text += (char) character;
            return text.length();
        }

        int clearText() {
            int length = text.length();
            text = "";
            return length;
        }

        int read(int program) {
            if (program != 0 && program != 1) {
                return INVALID;
            }
            try {
                actOn(program, new Grammar(text).whole());
                return size(programs.get(program));
            } catch (TextFails fails) {
                return -1000 - fails.place;
            }
        }

        int copy() {
            act(programs.get(0), programs.get(0));
            return size(programs.get(0));
        }

        int exchange() {
            act(programs.get(1), programs.get(0));
            return size(programs.get(0));
        }

        int cut(int program, int statement) {
            if (program != 0 && program != 1 || statement < 0 || statement >= size(programs.get(program))) {
                return INVALID;
            }
            actOn(program, without(programs.get(program), statement));
            return size(programs.get(program));
        }

        int undo() {
            if (history.isEmpty()) {
                return -10002;
            }
            programs = history.removeLast();
            return history.size();
        }

        int count(int what) {
            return switch (what) {
                case 0, 1 -> size(programs.get(what));
                case 2 -> history.size();
                case 3 -> text.length();
                default -> INVALID;
            };
        }

        int program(int program, int what) {
            if (program != 0 && program != 1 || what < 0 || what > 7) {
                return INVALID;
            }
            List<Node> nodes = programs.get(program);
            return switch (what) {
                case 0 -> size(nodes);
                case 6 -> depth(nodes);
                case 7 -> settable(nodes);
                default -> tally(nodes, "=!#[?".charAt(what - 1));
            };
        }

        int run(int program, int first, int second, int what) {
            if (program != 0 && program != 1 || noInput(first, second) || what < 0 || what > 5) {
                return INVALID;
            }
            ModelRun run = new ModelRun(programs.get(program), first, second);
            return new int[] {run.steps, run.cutOff ? 1 : 0, run.values.size(), run.marks.size(), run.rounds,
                run.mostRounds}[what];
        }

        int told(int program, int first, int second, int index) {
            if (program != 0 && program != 1 || noInput(first, second) || index < 0) {
                return INVALID;
            }
            List<Integer> kept = new ModelRun(programs.get(program), first, second).kept();
            return index < kept.size() ? kept.get(index) : NONE;
        }

        int cell(int program, int first, int second, int mark, int cell) {
            if (program != 0 && program != 1 || noInput(first, second) || mark < -1 || cell < 0 || cell > 5) {
                return INVALID;
            }
            ModelRun run = new ModelRun(programs.get(program), first, second);
            if (mark >= run.keptMarks()) {
                return NONE;
            }
            return mark < 0 ? run.cells[cell] : run.marks.get(mark)[cell];
        }

        int pairs(int first, int second, int what) {
            if (noInput(first, second) || what < 0 || what > 3) {
                return INVALID;
            }
            ModelRun zeroth = new ModelRun(programs.get(0), first, second);
            ModelRun other = new ModelRun(programs.get(1), first, second);
            int pairs = Math.min(zeroth.keptMarks(), other.keptMarks());
            int even = 0;
            int greatest = NONE;
            int last = NONE;
            for (int pair = 0; pair < pairs; pair++) {
                even += java.util.Arrays.equals(zeroth.marks.get(pair), other.marks.get(pair)) ? 1 : 0;
                last = zeroth.leads.get(pair) - other.leads.get(pair);
                greatest = Math.max(greatest, last < 0 ? -last : last);
            }
            return new int[] {pairs, greatest, last, even}[what];
        }

        int equal(int first, int second, int cell) {
            if (noInput(first, second) || cell < 0 || cell > 5) {
                return INVALID;
            }
            ModelRun zeroth = new ModelRun(programs.get(0), first, second);
            ModelRun other = new ModelRun(programs.get(1), first, second);
            int set = 63;
            for (int pair = 0; pair < Math.min(zeroth.keptMarks(), other.keptMarks()); pair++) {
                for (int y = 0; y < 6; y++) {
                    if (zeroth.marks.get(pair)[cell] != other.marks.get(pair)[y]) {
                        set &= ~(1 << y);
                    }
                }
            }
            return set;
        }

        int difference(int first, int second) {
            if (noInput(first, second)) {
                return INVALID;
            }
            List<Integer> zeroth = new ModelRun(programs.get(0), first, second).kept();
            List<Integer> other = new ModelRun(programs.get(1), first, second).kept();
            int both = Math.min(zeroth.size(), other.size());
            for (int index = 0; index < both; index++) {
                if (!zeroth.get(index).equals(other.get(index))) {
                    return index;
                }
            }
            return zeroth.size() == other.size() ? NONE : both;
        }

        int agree(int lowest, int highest, int what) {
            if (lowest < -9 || lowest > 9 || highest < lowest || highest > 9 || what < 0 || what > 2) {
                return INVALID;
            }
            int agreed = 0;
            int[] parted = {0, NONE, NONE};
            for (int first = highest; first >= lowest; first--) {
                for (int second = highest; second >= lowest; second--) {
                    ModelRun zeroth = new ModelRun(programs.get(0), first, second);
                    ModelRun other = new ModelRun(programs.get(1), first, second);
                    if (!zeroth.cutOff && !other.cutOff && zeroth.putsOutLike(other)) {
                        agreed++;
                    } else {
                        parted = new int[] {0, first, second};
                    }
                }
            }
            return what == 0 ? agreed : parted[what];
        }

        int always(int cell) {
            int set = cell < 0 || cell > 5 ? INVALID : 63;
            for (int input = 0; input < 16 && set >= 0; input++) {
                set &= equal(input / 4, input % 4, cell);
            }
            return set;
        }

        int idle(int program) {
            if (program != 0 && program != 1) {
                return INVALID;
            }
            List<Node> nodes = programs.get(program);
            for (int statement = 0; statement < size(nodes); statement++) {
                if (sameWithout(nodes, without(nodes, statement))) {
                    return statement;
                }
            }
            return NONE;
        }

        private static boolean sameWithout(List<Node> nodes, List<Node> rest) {
            for (int input = 0; input < 16; input++) {
                ModelRun before = new ModelRun(nodes, input / 4, input % 4);
                ModelRun then = new ModelRun(rest, input / 4, input % 4);
                if (before.cutOff != then.cutOff || !before.putsOutLike(then)) {
                    return false;
                }
            }
            return true;
        }

        private static boolean noInput(int first, int second) {
            return first < -999 || first > 999 || second < -999 || second > 999;
        }

        private static int size(List<Node> nodes) {
            int size = 0;
            for (Node node : nodes) {
                size += 1 + size(node.first()) + size(node.second());
            }
            return size;
        }

        private static int tally(List<Node> nodes, char kind) {
            int found = 0;
            for (Node node : nodes) {
                found += (node.kind() == kind ? 1 : 0) + tally(node.first(), kind) + tally(node.second(), kind);
            }
            return found;
        }

        private static int depth(List<Node> nodes) {
            int deepest = 0;
            for (Node node : nodes) {
                if (node.kind() == '[' || node.kind() == '?') {
                    deepest = Math.max(deepest, 1 + Math.max(depth(node.first()), depth(node.second())));
                }
            }
            return deepest;
        }

        private static int settable(List<Node> nodes) {
            int set = 0;
            for (Node node : nodes) {
                set |= node.kind() == '=' ? 1 << node.cell() : settable(node.first()) | settable(node.second());
            }
            return set;
        }

        private static List<Node> without(List<Node> nodes, int statement) {
            List<Node> rest = new ArrayList<>();
            int at = statement;
            for (Node node : nodes) {
                int inFirst = size(node.first());
                int inSecond = size(node.second());
                if (at > 0 && at <= inFirst + inSecond) {
                    boolean isFirst = at <= inFirst;
                    rest.add(new Node(node.kind(), node.cell(), node.left(), node.operator(), node.right(),
                        isFirst ? without(node.first(), at - 1) : node.first(),
                        isFirst ? node.second() : without(node.second(), at - 1 - inFirst)));
                } else if (at != 0) {
                    rest.add(node);
                }
                at -= 1 + inFirst + inSecond;
            }
            return rest;
        }
    }

    /** The same numbers in every run of the test. */
    private static final class Numbers {
        private long state;

        Numbers(long seed) {
            state = seed * 2862933555777941757L + 3037000493L;
        }

        int below(int bound) {
            state = state * 6364136223846793005L + 1442695040888963407L;
            return (int) ((state >>> 33) % bound);
        }

        boolean chance(int percent) {
            return below(100) < percent;
        }
    }

    private final Numbers numbers;
    private final PairedSteps program = new PairedSteps();
    private final Model model = new Model();
    private final int seed;
    private int wrong;
    private int number;

    private PairedStepsAgainstModel(int seed) {
        this.seed = seed;
        numbers = new Numbers(seed);
    }

    public static void main(String[] args) {
        int wrong = 0;
        for (int seed = 1; seed <= RUNS && wrong < 20; seed++) {
            PairedStepsAgainstModel test = new PairedStepsAgainstModel(seed);
            test.callAll();
            wrong += test.wrong;
        }
        System.out.println(wrong == 0 ? "all answers are as due" : wrong + " answers are not as due");
        if (wrong != 0) {
            System.exit(1);
        }
    }

    private void callAll() {
        while (number < CALLS && wrong == 0) {
            int kind = numbers.below(100);
            if (kind < 12) {
                typeText();
            } else if (kind < 30) {
                act();
            } else if (kind < 38) {
                look();
            } else if (kind < 70) {
                askOne();
            } else {
                askBoth();
            }
        }
    }

    private void due(String call, int got, int want) {
        number++;
        if (got != want) {
            wrong++;
            System.out.println("seed " + seed + ", call " + number + ": " + call + " answered " + got + ", the model says "
                + want + "; text \"" + model.text + "\", programs " + model.programs);
        }
    }

    private void append(int character) {
        if (number < CALLS) {
            due("append " + character, program.append(character), model.append(character));
        }
    }

    private void typeText() {
        if (!numbers.chance(10)) {
            due("clearText", program.clearText(), model.clearText());
        }
        StringBuilder text = new StringBuilder();
        int size = numbers.chance(20) ? 30 : 6;
        writeProgram(text, size, 0);
        if (numbers.chance(20)) {
            spoil(text);
        }
        for (int i = 0; i < text.length() && number < CALLS; i++) {
            append(text.charAt(i));
        }
        if (numbers.chance(10)) {
            append(new int[] {0, 256, -1, 255, 1, 32}[numbers.below(6)]);
        }
        int side = numbers.below(2);
        due("read " + side, program.read(side), model.read(side));
    }

    private void spoil(StringBuilder text) {
        for (int times = numbers.below(3); times >= 0; times--) {
            int place = numbers.below(text.length() + 1);
            String signs = "abcdefg0123456789+-*=!#;[]?:. \n~";
            char sign = signs.charAt(numbers.below(signs.length()));
            if (place == text.length() || numbers.chance(40)) {
                text.insert(place, sign);
            } else if (numbers.chance(50)) {
                text.setCharAt(place, sign);
            } else if (numbers.chance(50)) {
                text.deleteCharAt(place);
            } else {
                text.setLength(place);
            }
        }
    }

    private void writeProgram(StringBuilder text, int size, int depth) {
        int statements = numbers.below(size) + (depth == 0 ? 1 : 0);
        for (int i = 0; i < statements && text.length() < 120; i++) {
            writeStatement(text, size, depth);
        }
    }

    private void writeStatement(StringBuilder text, int size, int depth) {
        int kind = numbers.below(100);
        char cell = (char) ('a' + numbers.below(numbers.chance(70) ? 3 : 6));
        if (numbers.chance(8)) {
            text.append(' ');
        }
        if (kind < 25) {
            writeSetting(text, cell);
        } else if (kind < 45) {
            text.append('!').append(cell).append(';');
        } else if (kind < 60) {
            text.append("#;");
        } else if (kind < 82 && (depth < 5 || numbers.chance(20))) {
            text.append('[').append(cell);
            writeProgram(text, Math.max(3, size / 2), depth + 1);
            if (numbers.chance(85)) {
                text.append(cell).append('=').append(cell).append("-1;");
            }
            text.append(']');
        } else if (depth < 5 || numbers.chance(20)) {
            text.append('?').append(cell);
            writeProgram(text, Math.max(3, size / 2), depth + 1);
            text.append(':');
            writeProgram(text, Math.max(3, size / 2), depth + 1);
            text.append('.');
        } else {
            text.append("#;");
        }
    }

    private void writeSetting(StringBuilder text, char cell) {
        text.append(cell).append('=');
        writeTerm(text);
        if (numbers.chance(75)) {
            text.append("+-*".charAt(numbers.below(3)));
            writeTerm(text);
        }
        text.append(';');
    }

    private void writeTerm(StringBuilder text) {
        if (numbers.chance(60)) {
            text.append((char) ('a' + numbers.below(numbers.chance(70) ? 3 : 6)));
        } else {
            text.append(numbers.chance(80) ? numbers.below(4) : numbers.below(1000));
        }
    }

    private int side() {
        return numbers.chance(96) ? numbers.below(2) : new int[] {-1, 2, Integer.MAX_VALUE}[numbers.below(3)];
    }

    private int from(int lowest, int highest) {
        if (numbers.chance(4)) {
            return new int[] {lowest - 1, highest + 1, Integer.MIN_VALUE, Integer.MAX_VALUE}[numbers.below(4)];
        }
        return lowest + numbers.below(highest - lowest + 1);
    }

    private int input() {
        return numbers.chance(80) ? from(-2, 6) : numbers.chance(70) ? from(-9, 150) : from(-999, 999);
    }

    private int index() {
        return numbers.chance(70) ? from(0, 5) : from(0, 45);
    }

    private void act() {
        switch (numbers.below(7)) {
            case 0 -> due("copy", program.copy(), model.copy());
            case 1 -> due("exchange", program.exchange(), model.exchange());
            case 2, 3 -> due("undo", program.undo(), model.undo());
            case 4 -> {
                int side = side();
                due("read " + side, program.read(side), model.read(side));
            }
            default -> {
                int side = side();
                int statement = from(0, Math.max(1, model.count(numbers.below(2)) - 1));
                due("cut " + side + " " + statement, program.cut(side, statement), model.cut(side, statement));
            }
        }
    }

    private void look() {
        int what = from(0, 3);
        due("count " + what, program.count(what), model.count(what));
        int side = side();
        int property = from(0, 7);
        due("program " + side + " " + property, program.program(side, property), model.program(side, property));
    }

    private void askOne() {
        int side = side();
        int first = input();
        int second = input();
        String by = side + " " + first + " " + second + " ";
        switch (numbers.below(3)) {
            case 0 -> {
                int what = from(0, 5);
                due("run " + by + what, program.run(side, first, second, what), model.run(side, first, second, what));
            }
            case 1 -> {
                int index = index();
                due("told " + by + index, program.told(side, first, second, index),
                    model.told(side, first, second, index));
            }
            default -> {
                int mark = index() - 1;
                int cell = from(0, 5);
                due("cell " + by + mark + " " + cell, program.cell(side, first, second, mark, cell),
                    model.cell(side, first, second, mark, cell));
            }
        }
    }

    private void askBoth() {
        int first = input();
        int second = input();
        String by = first + " " + second + " ";
        int kind = numbers.below(100);
        if (kind < 30) {
            int what = from(0, 3);
            due("pairs " + by + what, program.pairs(first, second, what), model.pairs(first, second, what));
        } else if (kind < 50) {
            int cell = from(0, 5);
            due("equal " + by + cell, program.equal(first, second, cell), model.equal(first, second, cell));
        } else if (kind < 65) {
            due("difference " + by, program.difference(first, second), model.difference(first, second));
        } else if (kind < 75) {
            int cell = from(0, 5);
            due("always " + cell, program.always(cell), model.always(cell));
        } else if (kind < 87) {
            int side = side();
            due("idle " + side, program.idle(side), model.idle(side));
        } else {
            int lowest = from(-9, 9);
            int highest = numbers.chance(70) ? Math.min(9, lowest + numbers.below(5)) : from(-9, 9);
            int what = from(0, 2);
            due("agree " + lowest + " " + highest + " " + what, program.agree(lowest, highest, what),
                model.agree(lowest, highest, what));
        }
    }
}
