/** Two small programs, read from texts, that run side by side; ../shared/DOC.md says what each call does. */
public final class PairedSteps {
    public static final int INVALID_ARGUMENT = -10001;
    public static final int ILLEGAL_STATE = -10002;
    public static final int CAPACITY_EXCEEDED = -10003;
    public static final int NONE = -10009;

    private static final int CELLS = 6;
    private static final int ALL_CELLS = 63;
    private static final int MAX_VALUE = 999;
    private static final int MAX_CHARACTER = 255;
    private static final int MAX_TEXT = 120;
    private static final int MAX_STATEMENTS = 60;
    private static final int MAX_DEPTH = 5;
    private static final int MAX_STEPS = 400;
    private static final int MAX_KEPT = 40;
    private static final int MAX_STATES = 5;
    private static final int MAX_RANGE = 9;
    /** The inputs of always and idle have numbers from 0 to below this. */
    private static final int TRIED_NUMBERS = 4;
    private static final int TRIED_INPUTS = TRIED_NUMBERS * TRIED_NUMBERS;
    private static final int FAILED_READ = -1000;

    // The kinds of statements have the numbers by which the method program() asks for them.
    private static final int SET = 1;
    private static final int TELL = 2;
    private static final int MARK = 3;
    private static final int LOOP = 4;
    private static final int CHOICE = 5;

    private static final int OUTSIDE = -1;
    private static final int NO_CELL = -1;
    private static final int NO_TERM = -1;
    private static final int NO_OPERATOR = 0;
    /** Terms from here on are cells, those below it are numbers. */
    private static final int FIRST_CELL_TERM = MAX_VALUE + 1;
    /** Stands behind the last sign of a text: no character has the code 0. */
    private static final int TEXT_END = 0;

    private final Text text;
    private final Listing draft;
    private final Reader reader;
    private final History history;
    private final Sides sides;
    private final Output[] outputsBefore;
    private Listing zeroth;
    private Listing other;

    public PairedSteps() {
        text = new Text();
        draft = new Listing();
        reader = new Reader(text, draft);
        history = new History();
        sides = new Sides();
        outputsBefore = new Output[TRIED_INPUTS];
        for (int input = 0; input < TRIED_INPUTS; input++) {
            outputsBefore[input] = new Output();
        }
        zeroth = new Listing();
        other = new Listing();
    }

    // ---- programs

    public int append(int character) {
        if (!isWithin(character, 1, MAX_CHARACTER)) {
            return INVALID_ARGUMENT;
        }
        if (text.isFull()) {
            return CAPACITY_EXCEEDED;
        }
        text.add((char) character);
        return text.length;
    }

    public int clearText() {
        int previous = text.length;
        text.length = 0;
        return previous;
    }

    public int read(int program) {
        if (!isProgram(program)) {
            return INVALID_ARGUMENT;
        }
        if (!reader.readDraft()) {
            return FAILED_READ - reader.place;
        }
        history.push(zeroth, other);
        Listing changed = listingOf(program);
        changed.takeFrom(draft);
        return changed.size;
    }

    public int copy() {
        history.push(zeroth, other);
        other.takeFrom(zeroth);
        return other.size;
    }

    public int exchange() {
        history.push(zeroth, other);
        Listing former = zeroth;
        zeroth = other;
        other = former;
        return zeroth.size;
    }

    public int cut(int program, int statement) {
        if (!isProgram(program) || !listingOf(program).holds(statement)) {
            return INVALID_ARGUMENT;
        }
        history.push(zeroth, other);
        Listing changed = listingOf(program);
        changed.remove(statement);
        return changed.size;
    }

    public int undo() {
        if (history.size == 0) {
            return ILLEGAL_STATE;
        }
        history.pop(zeroth, other);
        return history.size;
    }

    // ---- looking

    public int count(int what) {
        switch (what) {
            case 0:
                return zeroth.size;
            case 1:
                return other.size;
            case 2:
                return history.size;
            case 3:
                return text.length;
            default:
                return INVALID_ARGUMENT;
        }
    }

    public int program(int program, int what) {
        if (!isProgram(program)) {
            return INVALID_ARGUMENT;
        }
        Listing asked = listingOf(program);
        switch (what) {
            case 0:
                return asked.size;
            case SET:
            case TELL:
            case MARK:
            case LOOP:
            case CHOICE:
                return asked.tally(what);
            case 6:
                return asked.nesting();
            case 7:
                return asked.settableCells();
            default:
                return INVALID_ARGUMENT;
        }
    }

    // ---- runs of one program

    public int run(int program, int first, int second, int what) {
        if (!isProgram(program) || !isInput(first, second) || !isWithin(what, 0, 5)) {
            return INVALID_ARGUMENT;
        }
        Trace trace = traceOf(program, first, second);
        switch (what) {
            case 0:
                return trace.steps;
            case 1:
                return trace.output.cutOff ? 1 : 0;
            case 2:
                return trace.output.total;
            case 3:
                return trace.marks;
            case 4:
                return trace.rounds;
            default:
                return trace.mostRounds;
        }
    }

    public int told(int program, int first, int second, int index) {
        if (!isProgram(program) || !isInput(first, second) || index < 0) {
            return INVALID_ARGUMENT;
        }
        return traceOf(program, first, second).output.valueAt(index);
    }

    public int cell(int program, int first, int second, int mark, int cell) {
        if (!isProgram(program) || !isInput(first, second) || mark < -1 || !isCell(cell)) {
            return INVALID_ARGUMENT;
        }
        Trace trace = traceOf(program, first, second);
        return mark == -1 ? trace.valueOf(cell) : trace.cellAtMark(mark, cell);
    }

    // ---- both side by side

    public int pairs(int first, int second, int what) {
        if (!isInput(first, second) || !isWithin(what, 0, 3)) {
            return INVALID_ARGUMENT;
        }
        sides.follow(zeroth, other, first, second);
        switch (what) {
            case 0:
                return sides.pairsKept();
            case 1:
                return sides.greatestLead();
            case 2:
                return sides.lastLead();
            default:
                return sides.evenPairs();
        }
    }

    public int equal(int first, int second, int cell) {
        if (!isInput(first, second) || !isCell(cell)) {
            return INVALID_ARGUMENT;
        }
        sides.follow(zeroth, other, first, second);
        return sides.cellsEqualTo(cell);
    }

    public int difference(int first, int second) {
        if (!isInput(first, second)) {
            return INVALID_ARGUMENT;
        }
        sides.follow(zeroth, other, first, second);
        return sides.zeroth.output.firstDifference(sides.other.output);
    }

    public int agree(int lowest, int highest, int what) {
        if (!isWithin(lowest, -MAX_RANGE, MAX_RANGE) || !isWithin(highest, lowest, MAX_RANGE)
                || !isWithin(what, 0, 2)) {
            return INVALID_ARGUMENT;
        }
        int agreed = 0;
        for (int first = lowest; first <= highest; first++) {
            for (int second = lowest; second <= highest; second++) {
                sides.follow(zeroth, other, first, second);
                if (sides.inAgreement()) {
                    agreed++;
                } else if (what != 0) {
                    return what == 1 ? first : second;
                }
            }
        }
        return what == 0 ? agreed : NONE;
    }

    public int always(int cell) {
        if (!isCell(cell)) {
            return INVALID_ARGUMENT;
        }
        int sameCells = ALL_CELLS;
        for (int input = 0; input < TRIED_INPUTS; input++) {
            sides.follow(zeroth, other, triedFirst(input), triedSecond(input));
            sameCells &= sides.cellsEqualTo(cell);
        }
        return sameCells;
    }

    public int idle(int program) {
        if (!isProgram(program)) {
            return INVALID_ARGUMENT;
        }
        Listing whole = listingOf(program);
        keepOutputsOf(whole);
        for (int statement = 0; statement < whole.size; statement++) {
            draft.takeFrom(whole);
            draft.remove(statement);
            if (putsOutAsBefore(draft)) {
                return statement;
            }
        }
        return NONE;
    }

    private void keepOutputsOf(Listing whole) {
        Trace trace = sides.zeroth;
        for (int input = 0; input < TRIED_INPUTS; input++) {
            trace.follow(whole, triedFirst(input), triedSecond(input));
            outputsBefore[input].takeFrom(trace.output);
        }
    }

    private boolean putsOutAsBefore(Listing rest) {
        Trace trace = sides.zeroth;
        for (int input = 0; input < TRIED_INPUTS; input++) {
            trace.follow(rest, triedFirst(input), triedSecond(input));
            Output before = outputsBefore[input];
            if (before.cutOff != trace.output.cutOff || !before.hasValuesOf(trace.output)) {
                return false;
            }
        }
        return true;
    }

    private Listing listingOf(int program) {
        return program == 0 ? zeroth : other;
    }

    private Trace traceOf(int program, int first, int second) {
        sides.zeroth.follow(listingOf(program), first, second);
        return sides.zeroth;
    }

    private static int triedFirst(int input) {
        return input / TRIED_NUMBERS;
    }

    private static int triedSecond(int input) {
        return input % TRIED_NUMBERS;
    }

    private static boolean isWithin(int number, int lowest, int highest) {
        return number >= lowest && number <= highest;
    }

    private static boolean isProgram(int program) {
        return isWithin(program, 0, 1);
    }

    private static boolean isCell(int cell) {
        return isWithin(cell, 0, CELLS - 1);
    }

    private static boolean isInput(int first, int second) {
        return isWithin(first, -MAX_VALUE, MAX_VALUE) && isWithin(second, -MAX_VALUE, MAX_VALUE);
    }

    /** The characters that have been appended. */
    private static final class Text {
        private final char[] signs = new char[MAX_TEXT];
        private int length;

        boolean isFull() {
            return length >= MAX_TEXT;
        }

        void add(char sign) {
            if (isWithin(length, 0, MAX_TEXT - 1)) {
                signs[length] = sign;
                length++;
            }
        }

        int signAt(int place) {
            return isWithin(place, 0, Math.min(length, MAX_TEXT) - 1) ? signs[place] : TEXT_END;
        }
    }

    /** Reads a text as a program. If that fails, it stands at the place of the failure. */
    private static final class Reader {
        private final Text text;
        private final Listing draft;
        /** The statements that are open, by how deep they are nested; the entry 0 is for what is outside. */
        private final int[] opened = new int[MAX_DEPTH + 1];
        /** The signs that go on from the open statements, by how deep they are nested. */
        private final int[] awaited = new int[MAX_DEPTH + 1];
        private int depth;
        private int place;

        Reader(Text text, Listing draft) {
            this.text = text;
            this.draft = draft;
            opened[0] = OUTSIDE;
            awaited[0] = TEXT_END;
        }

        boolean readDraft() {
            draft.size = 0;
            depth = 0;
            place = 0;
            // Each pass but the last takes a sign at least.
            for (int pass = 0; pass <= MAX_TEXT; pass++) {
                int sign = nextSign();
                if (sign != awaitedSign()) {
                    if (!readStatement(sign)) {
                        return false;
                    }
                } else if (sign == TEXT_END) {
                    draft.link();
                    return true;
                } else {
                    goOn(sign);
                }
            }
            return false;
        }

        /** Reads a statement, or of "[" and "?" what stands ahead of the program in it. */
        private boolean readStatement(int sign) {
            if (draft.isFull()) {
                return false;
            }
            switch (sign) {
                case '!':
                    return readTell();
                case '#':
                    place++;
                    return take(';') && draft.add(MARK, 0, innermost());
                case '[':
                    return readOpening(LOOP, ']');
                case '?':
                    return readOpening(CHOICE, ':');
                default:
                    return readSetting();
            }
        }

        private boolean readTell() {
            place++;
            int target = takeCell();
            return target != NO_CELL && take(';') && draft.add(TELL, target, innermost());
        }

        private boolean readSetting() {
            int target = takeCell();
            if (target == NO_CELL || !take('=')) {
                return false;
            }
            int left = takeTerm();
            if (left == NO_TERM) {
                return false;
            }
            int operator = takeOperator();
            int right = operator == NO_OPERATOR ? 0 : takeTerm();
            if (right == NO_TERM || !take(';') || !draft.add(SET, target, innermost())) {
                return false;
            }
            draft.setTerms(left, operator, right);
            return true;
        }

        private boolean readOpening(int kind, int closing) {
            if (!isWithin(depth, 0, MAX_DEPTH - 1)) {
                return false;
            }
            place++;
            int target = takeCell();
            if (target == NO_CELL || !draft.add(kind, target, innermost())) {
                return false;
            }
            depth++;
            opened[depth] = draft.size - 1;
            awaited[depth] = closing;
            return true;
        }

        /** Takes the sign that is awaited, and goes on behind it. */
        private void goOn(int sign) {
            place++;
            if (!isWithin(depth, 1, MAX_DEPTH)) {
                return;
            }
            if (sign == ':') {
                draft.endFirstPart(innermost());
                awaited[depth] = '.';
            } else {
                draft.close(innermost());
                depth--;
            }
        }

        private int innermost() {
            return isWithin(depth, 0, MAX_DEPTH) ? opened[depth] : OUTSIDE;
        }

        private int awaitedSign() {
            return isWithin(depth, 0, MAX_DEPTH) ? awaited[depth] : TEXT_END;
        }

        private int nextSign() {
            for (int spaces = 0; spaces < MAX_TEXT && text.signAt(place) == ' '; spaces++) {
                place++;
            }
            return text.signAt(place);
        }

        private boolean take(int sign) {
            if (nextSign() != sign) {
                return false;
            }
            place++;
            return true;
        }

        private int takeCell() {
            int cell = nextSign() - 'a';
            if (!isCell(cell)) {
                return NO_CELL;
            }
            place++;
            return cell;
        }

        private int takeOperator() {
            int sign = nextSign();
            if (sign != '+' && sign != '-' && sign != '*') {
                return NO_OPERATOR;
            }
            place++;
            return sign;
        }

        private int takeTerm() {
            int sign = nextSign();
            if (isCell(sign - 'a')) {
                place++;
                return FIRST_CELL_TERM + sign - 'a';
            }
            return isDigit(sign) ? takeNumber() : NO_TERM;
        }

        /** Leaves a digit too many, be it one behind a 0: it fails as what stands behind the number. */
        private int takeNumber() {
            int number = text.signAt(place) - '0';
            place++;
            for (int digits = 1; digits < 3 && number > 0 && isDigit(text.signAt(place)); digits++) {
                number = number * 10 + text.signAt(place) - '0';
                place++;
            }
            return number;
        }

        private static boolean isDigit(int sign) {
            return isWithin(sign, '0', '9');
        }
    }

    /** A program: a row for each property of its statements, in the order in which these begin. */
    private static final class Listing {
        private int size;
        private final int[] kinds = new int[MAX_STATEMENTS];
        private final int[] targets = new int[MAX_STATEMENTS];
        private final int[] lefts = new int[MAX_STATEMENTS];
        private final int[] operators = new int[MAX_STATEMENTS];
        private final int[] rights = new int[MAX_STATEMENTS];
        /** The "[" or "?" that a statement stands in. */
        private final int[] outers = new int[MAX_STATEMENTS];
        /** The first statement behind the first part: of "?" the one ahead of ":", of "[" all that is in it. */
        private final int[] middles = new int[MAX_STATEMENTS];
        /** The first statement behind a statement and all that is in it. */
        private final int[] ends = new int[MAX_STATEMENTS];
        /** The statement that a run comes to when it is done with a statement and all that is in it. */
        private final int[] followers = new int[MAX_STATEMENTS];

        boolean isFull() {
            return size >= MAX_STATEMENTS;
        }

        boolean holds(int statement) {
            return statement >= 0 && statement < size && statement < MAX_STATEMENTS;
        }

        boolean add(int kind, int target, int outer) {
            if (!isWithin(size, 0, MAX_STATEMENTS - 1)) {
                return false;
            }
            kinds[size] = kind;
            targets[size] = target;
            lefts[size] = 0;
            operators[size] = NO_OPERATOR;
            rights[size] = 0;
            outers[size] = outer;
            middles[size] = size + 1;
            ends[size] = size + 1;
            size++;
            return true;
        }

        /** Sets the terms of the last statement. */
        void setTerms(int left, int operator, int right) {
            int last = size - 1;
            if (holds(last)) {
                lefts[last] = left;
                operators[last] = operator;
                rights[last] = right;
            }
        }

        void endFirstPart(int statement) {
            if (holds(statement)) {
                middles[statement] = size;
            }
        }

        void close(int statement) {
            if (holds(statement)) {
                ends[statement] = size;
                if (kinds[statement] == LOOP) {
                    middles[statement] = size;
                }
            }
        }

        void takeFrom(Listing source) {
            size = source.size;
            System.arraycopy(source.kinds, 0, kinds, 0, MAX_STATEMENTS);
            System.arraycopy(source.targets, 0, targets, 0, MAX_STATEMENTS);
            System.arraycopy(source.lefts, 0, lefts, 0, MAX_STATEMENTS);
            System.arraycopy(source.operators, 0, operators, 0, MAX_STATEMENTS);
            System.arraycopy(source.rights, 0, rights, 0, MAX_STATEMENTS);
            System.arraycopy(source.outers, 0, outers, 0, MAX_STATEMENTS);
            System.arraycopy(source.middles, 0, middles, 0, MAX_STATEMENTS);
            System.arraycopy(source.ends, 0, ends, 0, MAX_STATEMENTS);
            System.arraycopy(source.followers, 0, followers, 0, MAX_STATEMENTS);
        }

        /** Takes a statement out, with all that is in it. */
        void remove(int statement) {
            if (!holds(statement)) {
                return;
            }
            int gone = ends[statement] - statement;
            for (int from = ends[statement]; from < size; from++) {
                moveDown(from, from - gone);
            }
            size -= gone;
            for (int at = 0; at < size && at < MAX_STATEMENTS; at++) {
                outers[at] = placeWithout(outers[at], statement, gone);
                middles[at] = placeWithout(middles[at], statement, gone);
                ends[at] = placeWithout(ends[at], statement, gone);
            }
            link();
        }

        private void moveDown(int from, int to) {
            if (holds(from) && holds(to)) {
                kinds[to] = kinds[from];
                targets[to] = targets[from];
                lefts[to] = lefts[from];
                operators[to] = operators[from];
                rights[to] = rights[from];
                outers[to] = outers[from];
                middles[to] = middles[from];
                ends[to] = ends[from];
            }
        }

        private static int placeWithout(int place, int removed, int gone) {
            return place > removed ? place - gone : place;
        }

        /** Finds all followers; that of a statement needs that of the one around it, which stands ahead. */
        void link() {
            for (int at = 0; at < size && at < MAX_STATEMENTS; at++) {
                followers[at] = followerOf(at);
            }
        }

        private int followerOf(int at) {
            int end = item(ends, at);
            int around = item(outers, at);
            if (!holds(around)) {
                return end;
            }
            int partEnd = at < middles[around] ? middles[around] : ends[around];
            if (end < partEnd) {
                return end;
            }
            return kinds[around] == LOOP ? around : followers[around];
        }

        /** The statement that comes next behind a "[" or "?" whose cell is greater than 0. */
        int entered(int at) {
            if (item(middles, at) > at + 1) {
                return at + 1;
            }
            return kindOf(at) == LOOP ? at : followerAt(at);
        }

        /** The statement that comes next behind a "[" or "?" whose cell is not greater than 0. */
        int passed(int at) {
            int middle = item(middles, at);
            return item(ends, at) > middle ? middle : followerAt(at);
        }

        int kindOf(int at) {
            return item(kinds, at);
        }

        int targetOf(int at) {
            return item(targets, at);
        }

        int leftOf(int at) {
            return item(lefts, at);
        }

        int operatorOf(int at) {
            return item(operators, at);
        }

        int rightOf(int at) {
            return item(rights, at);
        }

        int followerAt(int at) {
            return item(followers, at);
        }

        private int item(int[] row, int at) {
            return holds(at) ? row[at] : 0;
        }

        int tally(int kind) {
            int found = 0;
            for (int at = 0; at < size && at < MAX_STATEMENTS; at++) {
                if (kinds[at] == kind) {
                    found++;
                }
            }
            return found;
        }

        int nesting() {
            int deepest = 0;
            for (int at = 0; at < size && at < MAX_STATEMENTS; at++) {
                if (kinds[at] == LOOP || kinds[at] == CHOICE) {
                    deepest = Math.max(deepest, depthOf(at));
                }
            }
            return deepest;
        }

        private int depthOf(int at) {
            int depth = 0;
            int around = at;
            for (int level = 0; level < MAX_DEPTH && holds(around); level++) {
                depth++;
                around = outers[around];
            }
            return depth;
        }

        int settableCells() {
            int cells = 0;
            for (int at = 0; at < size && at < MAX_STATEMENTS; at++) {
                if (kinds[at] == SET) {
                    cells |= 1 << targets[at];
                }
            }
            return cells;
        }
    }

    /** The latest states ahead of actions, the oldest one first. */
    private static final class History {
        private final Listing[] zeroths = new Listing[MAX_STATES];
        private final Listing[] others = new Listing[MAX_STATES];
        private int size;

        History() {
            for (int state = 0; state < MAX_STATES; state++) {
                zeroths[state] = new Listing();
                others[state] = new Listing();
            }
        }

        void push(Listing zeroth, Listing other) {
            if (size >= MAX_STATES) {
                dropOldest();
            }
            if (isWithin(size, 0, MAX_STATES - 1)) {
                zeroths[size].takeFrom(zeroth);
                others[size].takeFrom(other);
                size++;
            }
        }

        void pop(Listing zeroth, Listing other) {
            int latest = size - 1;
            if (isWithin(latest, 0, MAX_STATES - 1)) {
                zeroth.takeFrom(zeroths[latest]);
                other.takeFrom(others[latest]);
                size = latest;
            }
        }

        /** The listings of the oldest state go to the end, to be used again. */
        private void dropOldest() {
            Listing oldestZeroth = zeroths[0];
            Listing oldestOther = others[0];
            for (int state = 1; state < MAX_STATES; state++) {
                zeroths[state - 1] = zeroths[state];
                others[state - 1] = others[state];
            }
            zeroths[MAX_STATES - 1] = oldestZeroth;
            others[MAX_STATES - 1] = oldestOther;
            size = MAX_STATES - 1;
        }
    }

    /** What a run puts out. */
    private static final class Output {
        private final int[] values = new int[MAX_KEPT];
        private int total;
        private boolean cutOff;

        void begin() {
            total = 0;
        }

        void add(int value) {
            if (isWithin(total, 0, MAX_KEPT - 1)) {
                values[total] = value;
            }
            total++;
        }

        void takeFrom(Output source) {
            total = source.total;
            cutOff = source.cutOff;
            System.arraycopy(source.values, 0, values, 0, MAX_KEPT);
        }

        int valueAt(int index) {
            return isWithin(index, 0, Math.min(total, MAX_KEPT) - 1) ? values[index] : NONE;
        }

        /** A value that is not there counts as NONE, which no value is. */
        int firstDifference(Output that) {
            for (int index = 0; index < MAX_KEPT; index++) {
                if (valueAt(index) != that.valueAt(index)) {
                    return index;
                }
            }
            return NONE;
        }

        boolean hasValuesOf(Output that) {
            return total == that.total && firstDifference(that) == NONE;
        }
    }

    /** A run of a program by an input, and what is kept of it. */
    private static final class Trace {
        private final Output output = new Output();
        private final int[] cells = new int[CELLS];
        /** The cells at the kept marks, mark by mark. */
        private final int[] cellsAtMarks = new int[MAX_KEPT * CELLS];
        /** The numbers of steps ahead of the kept marks. */
        private final int[] stepsAhead = new int[MAX_KEPT];
        /** The rounds of each "[" that began since it was come to. */
        private final int[] roundsSince = new int[MAX_STATEMENTS];
        private int steps;
        private int marks;
        private int rounds;
        private int mostRounds;

        void follow(Listing listing, int first, int second) {
            begin(first, second);
            int at = 0;
            for (int made = 0; made < MAX_STEPS && listing.holds(at); made++) {
                at = stepFrom(listing, at);
                steps++;
            }
            output.cutOff = listing.holds(at);
        }

        private void begin(int first, int second) {
            for (int cell = 0; cell < CELLS; cell++) {
                cells[cell] = 0;
            }
            cells[0] = first;
            cells[1] = second;
            for (int statement = 0; statement < MAX_STATEMENTS; statement++) {
                roundsSince[statement] = 0;
            }
            output.begin();
            steps = 0;
            marks = 0;
            rounds = 0;
            mostRounds = 0;
        }

        /** Makes the step of a statement, and returns the statement that comes next. */
        private int stepFrom(Listing listing, int at) {
            int target = listing.targetOf(at);
            boolean isGreater = valueOf(target) > 0;
            switch (listing.kindOf(at)) {
                case SET:
                    setCell(target, resultOf(listing, at));
                    return listing.followerAt(at);
                case TELL:
                    output.add(valueOf(target));
                    return listing.followerAt(at);
                case MARK:
                    keepMark();
                    return listing.followerAt(at);
                case LOOP:
                    countLook(at, isGreater);
                    break;
                default:
                    break;
            }
            return isGreater ? listing.entered(at) : listing.passed(at);
        }

        private void countLook(int at, boolean begins) {
            if (isWithin(at, 0, MAX_STATEMENTS - 1)) {
                roundsSince[at] = begins ? roundsSince[at] + 1 : 0;
                mostRounds = Math.max(mostRounds, roundsSince[at]);
            }
            if (begins) {
                rounds++;
            }
        }

        private int resultOf(Listing listing, int at) {
            int left = termValue(listing.leftOf(at));
            int right = termValue(listing.rightOf(at));
            switch (listing.operatorOf(at)) {
                case '+':
                    return nearestValue(left + right);
                case '-':
                    return nearestValue(left - right);
                case '*':
                    return nearestValue(left * right);
                default:
                    return left;
            }
        }

        private int termValue(int term) {
            return term < FIRST_CELL_TERM ? term : valueOf(term - FIRST_CELL_TERM);
        }

        private static int nearestValue(int number) {
            return Math.max(-MAX_VALUE, Math.min(MAX_VALUE, number));
        }

        private void setCell(int cell, int value) {
            if (isCell(cell)) {
                cells[cell] = value;
            }
        }

        private void keepMark() {
            if (isWithin(marks, 0, MAX_KEPT - 1)) {
                stepsAhead[marks] = steps;
                System.arraycopy(cells, 0, cellsAtMarks, marks * CELLS, CELLS);
            }
            marks++;
        }

        int marksKept() {
            return Math.min(marks, MAX_KEPT);
        }

        int valueOf(int cell) {
            return isWithin(cell, 0, CELLS - 1) ? cells[cell] : 0;
        }

        int cellAtMark(int mark, int cell) {
            boolean kept = isWithin(mark, 0, marksKept() - 1) && isCell(cell);
            return kept ? cellsAtMarks[mark * CELLS + cell] : NONE;
        }

        int stepsAheadOf(int mark) {
            return isWithin(mark, 0, marksKept() - 1) ? stepsAhead[mark] : 0;
        }
    }

    /** The runs of both programs by the same input. */
    private static final class Sides {
        private final Trace zeroth = new Trace();
        private final Trace other = new Trace();

        void follow(Listing zerothListing, Listing otherListing, int first, int second) {
            zeroth.follow(zerothListing, first, second);
            other.follow(otherListing, first, second);
        }

        int pairsKept() {
            return Math.min(zeroth.marksKept(), other.marksKept());
        }

        private int leadAt(int pair) {
            return zeroth.stepsAheadOf(pair) - other.stepsAheadOf(pair);
        }

        int greatestLead() {
            int greatest = NONE;
            int kept = pairsKept();
            for (int pair = 0; pair < kept; pair++) {
                greatest = Math.max(greatest, Math.abs(leadAt(pair)));
            }
            return greatest;
        }

        int lastLead() {
            int kept = pairsKept();
            return kept == 0 ? NONE : leadAt(kept - 1);
        }

        int evenPairs() {
            int even = 0;
            int kept = pairsKept();
            for (int pair = 0; pair < kept; pair++) {
                if (isEven(pair)) {
                    even++;
                }
            }
            return even;
        }

        private boolean isEven(int pair) {
            for (int cell = 0; cell < CELLS; cell++) {
                if (zeroth.cellAtMark(pair, cell) != other.cellAtMark(pair, cell)) {
                    return false;
                }
            }
            return true;
        }

        /** The cells of the other program that are equal to a cell of the zeroth one at all pairs. */
        int cellsEqualTo(int cell) {
            int sameCells = 0;
            for (int candidate = 0; candidate < CELLS; candidate++) {
                if (isAlwaysSame(cell, candidate)) {
                    sameCells |= 1 << candidate;
                }
            }
            return sameCells;
        }

        private boolean isAlwaysSame(int cell, int candidate) {
            int kept = pairsKept();
            for (int pair = 0; pair < kept; pair++) {
                if (zeroth.cellAtMark(pair, cell) != other.cellAtMark(pair, candidate)) {
                    return false;
                }
            }
            return true;
        }

        boolean inAgreement() {
            return !zeroth.output.cutOff && !other.output.cutOff && zeroth.output.hasValuesOf(other.output);
        }
    }
}
