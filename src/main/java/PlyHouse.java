/**
 * A mill that peels logs to leaves, clips the leaves into sheets, lays boards of veneers and loads a press.
 * Every part of it is a class of its own below; the public methods look at their arguments and ask the parts.
 */
public final class PlyHouse {
    /** There is none. */
    public static final int NONE = -1;

    private static final int NO_WARP = -2000000;

    private static final int NO_FAULT = 0;
    private static final int NO_TOKEN = 1;
    private static final int OUT_OF_PLACE = 2;
    private static final int BAD_NUMBER = 3;
    private static final int NO_MARK = 1;

    // A token is the value of its N, 0 or more, or one of these, all below 0. Those down to MINUS stand in
    // the code of a grade just so; the others are for the reader alone.
    private static final int KNOTS = -1;
    private static final int SPLITS = -2;
    private static final int HOLES = -3;
    private static final int PLUGS = -4;
    private static final int RUN = -5;
    private static final int NOT = -6;
    private static final int AND = -7;
    private static final int OR = -8;
    private static final int LESS = -9;
    private static final int MORE = -10;
    private static final int SAME = -11;
    private static final int PLUS = -12;
    private static final int MINUS = -13;
    private static final int OPEN = -14;
    private static final int CLOSE = -15;
    private static final int SEMICOLON = -16;
    private static final int GRADE = -17;
    private static final int WORTH = -18;
    private static final int WHEN = -19;
    private static final int OTHER_WORD = -20;
    private static final int BROKEN = -21;
    private static final int END = -22;

    private final Log log;
    private final Tape tape;
    private final GradeReader gradeReader;
    private final Grades grading;
    private final Leaf marks;
    private final Clipping clipping;
    private final Veneers veneers;
    private final Press pressing;
    private int latestFault;
    private int latestPlace;

    /** An empty net, no grades, an empty leaf, no boards glued. */
    public PlyHouse() {
        log = new Log();
        tape = new Tape();
        gradeReader = new GradeReader();
        grading = new Grades();
        marks = new Leaf();
        clipping = new Clipping(grading, marks);
        veneers = new Veneers();
        pressing = new Press();
        latestFault = NO_FAULT;
        latestPlace = NONE;
    }

    /** Puts a row of the net, its cells as bits; false if there is no such row or column. */
    public boolean net(int row, int cells) {
        return log.putRow(row, cells);
    }

    /** Of the centre: 0 its row, 1 its column, 2 its radius. */
    public int centre(int what) {
        log.findCentre();
        if (log.radius == NONE) {
            return NONE;
        }
        switch (what) {
            case 0: return log.centreRow;
            case 1: return log.centreColumn;
            case 2: return log.radius;
            default: return NONE;
        }
    }

    /** The length of the leaf peeled at the centre down to a core. */
    public int full(int core, int thick) {
        if (!within(core, 1, 200) || !within(thick, 1, 50)) {
            return NONE;
        }
        log.findCentre();
        return log.radius == NONE ? NONE : log.peeled(core, thick);
    }

    /** Puts twenty bytes behind those on the tape: how many there are then. */
    public int feed(int a, int b, int c, int d, int e) {
        if (!tape.hasRoomForFeed()) {
            return NONE;
        }
        tape.append(a);
        tape.append(b);
        tape.append(c);
        tape.append(d);
        tape.append(e);
        return tape.length;
    }

    /** Keeps the first n bytes of the tape. */
    public int end(int n) {
        return tape.keep(n) ? n : NONE;
    }

    /** Reads the tape as grades: how many lines. */
    public int grades() {
        boolean sound = gradeReader.readLines(tape);
        tape.keep(0);
        latestFault = gradeReader.fault;
        latestPlace = sound ? NONE : gradeReader.placeReached();
        if (!sound) {
            return NONE;
        }
        grading.copyFrom(gradeReader.draft);
        clipping.forget();
        return grading.lines;
    }

    /** Of the latest grades() or leaf(): 0 its fault, 1 the fault's place. */
    public int fault(int what) {
        switch (what) {
            case 0: return latestFault;
            case 1: return latestPlace;
            default: return NONE;
        }
    }

    /** Reads the tape as the leaf: how many marks. */
    public int leaf() {
        latestPlace = Leaf.firstFault(tape);
        latestFault = latestPlace == NONE ? NO_FAULT : NO_MARK;
        if (latestFault == NO_FAULT) {
            marks.take(tape);
            clipping.forget();
        }
        tape.keep(0);
        return latestFault == NO_FAULT ? marks.count : NONE;
    }

    /** Sets how many holes of a sheet may be patched, and what each costs. */
    public boolean patch(int patches, int cost) {
        if (!within(patches, 0, 3) || !within(cost, 0, 100)) {
            return false;
        }
        clipping.setPatching(patches, cost);
        return true;
    }

    /** 1 if the leaf from a mark on is a sheet for a grade with so many holes patched, 0 if not. */
    public int sheet(int from, int grade, int patched) {
        if (!within(patched, 0, 3) || !within(grade, 0, grading.lines - 1)) {
            return NONE;
        }
        if (!within(from, 0, marks.count - grading.widthOf(grade))) {
            return NONE;
        }
        return clipping.isSheet(from, grade, patched) ? 1 : 0;
    }

    /** What the sheets of the clipped leaf are worth together. */
    public int worth() {
        clipping.find();
        return clipping.totalWorth();
    }

    /** How many sheets the clipped leaf has. */
    public int sheets() {
        clipping.find();
        return clipping.found;
    }

    /** Of the k-th sheet from the left: 0 where it begins, 1 its grade, 2 how many holes are patched. */
    public int clipped(int k, int what) {
        clipping.find();
        return clipping.tell(k, what);
    }

    /** Sets a kind of veneer. */
    public boolean veneer(int kind, int thick, int off, int price, boolean fair) {
        if (!within(kind, 0, Veneers.KINDS - 1) || !within(thick, 1, 90)) {
            return false;
        }
        if (!within(off, 0, Math.min(20, thick)) || !within(price, 0, Veneers.MOST_PRICE)) {
            return false;
        }
        veneers.set(kind, thick, off, price, fair);
        return true;
    }

    /** Of a board: 0 how thin, 1 how thick it may be, 2 its price. */
    public int board(int n, int kinds, int what) {
        if (!Veneers.canBe(n, kinds)) {
            return NONE;
        }
        switch (what) {
            case 0: return veneers.thinOf(n, kinds);
            case 1: return veneers.thickOf(n, kinds);
            case 2: return veneers.priceOf(n, kinds);
            default: return NONE;
        }
    }

    /** How far a board would warp. */
    public int warp(int n, int kinds) {
        return Veneers.canBe(n, kinds) ? veneers.warpOf(n, kinds) : NO_WARP;
    }

    /** The kinds of the cheapest balanced board of n layers between low and high. */
    public int best(int n, int low, int high) {
        if (!within(n, 1, Veneers.MOST_LAYERS) || n % 2 == 0) {
            return NONE;
        }
        return veneers.cheapest(n, low, high);
    }

    /** Sets the press. */
    public boolean press(int openings, int base, int per, int life) {
        if (!within(openings, 1, 10) || !within(base, 0, 100)) {
            return false;
        }
        if (!within(per, 0, 10) || !within(life, 1, 1000)) {
            return false;
        }
        pressing.set(openings, base, per, life);
        return true;
    }

    /** Glues a board: its number. */
    public int glue(int thick, int minute) {
        if (!within(thick, 1, 500) || !within(minute, 0, 10000)) {
            return NONE;
        }
        return pressing.addBoard(thick, minute);
    }

    /** Takes the latest board back. */
    public boolean drop() {
        return pressing.removeBoard();
    }

    /** Of the plan: 0 how many boards are pressed, 1 which, 2 when the last load is out, 3 how many loads. */
    public int plan(int what) {
        pressing.find();
        switch (what) {
            case 0: return Integer.bitCount(pressing.chosen);
            case 1: return pressing.chosen;
            case 2: return pressing.outOf(pressing.chosen);
            case 3: return pressing.loadCount;
            default: return NONE;
        }
    }

    /** Of load k: 0 its boards as bits, 1 when they are put in. */
    public int load(int k, int what) {
        pressing.find();
        return pressing.tell(k, what);
    }

    /** 0 lines of grades, 1 marks of the leaf, 2 boards glued, 3 bytes on the tape. */
    public int about(int what) {
        switch (what) {
            case 0: return grading.lines;
            case 1: return marks.count;
            case 2: return pressing.boards;
            case 3: return tape.length;
            default: return NONE;
        }
    }

    private static boolean within(int value, int low, int high) {
        return low <= value && value <= high;
    }

    /** The net, and the cell at which the greatest disc fits. */
    private static final class Log {
        private static final int SIZE = 24;
        private static final int GREATEST_RADIUS = 11;

        private final int[] rows;
        private boolean stale;
        private int centreRow;
        private int centreColumn;
        private int radius;

        private Log() {
            rows = new int[SIZE];
            stale = false;
            radius = NONE;
        }

        private boolean putRow(int row, int cells) {
            if (row < 0 || row >= rows.length || !within(cells, 0, (1 << SIZE) - 1)) {
                return false;
            }
            rows[row] = cells;
            stale = true;
            return true;
        }

        private void findCentre() {
            if (!stale) {
                return;
            }
            stale = false;
            radius = NONE;
            for (int row = 0; row < SIZE; row++) {
                for (int column = 0; column < SIZE; column++) {
                    growAt(row, column);
                }
            }
        }

        // A disc holds all lesser ones, so a cell is of interest only if one greater than the greatest so far fits.
        private void growAt(int row, int column) {
            for (int wider = radius + 1; wider <= GREATEST_RADIUS && discFits(row, column, wider); wider++) {
                radius = wider;
                centreRow = row;
                centreColumn = column;
            }
        }

        private boolean discFits(int row, int column, int wide) {
            if (row - wide < 0 || row + wide >= SIZE || column - wide < 0 || column + wide >= SIZE) {
                return false;
            }
            int half = wide;
            for (int off = 0; off <= wide; off++) {
                while (half > 0 && half * half + off * off > wide * wide) {
                    half--;
                }
                int cells = ((1 << (2 * half + 1)) - 1) << (column - half);
                if (!hasCells(row - off, cells) || !hasCells(row + off, cells)) {
                    return false;
                }
            }
            return true;
        }

        private boolean hasCells(int row, int cells) {
            return row >= 0 && row < rows.length && (rows[row] & cells) == cells;
        }

        private int peeled(int core, int thick) {
            int outer = 10 * radius + 5;
            int divisor = 7 * thick;
            if (core >= outer || divisor <= 0) {
                return 0;
            }
            return (outer * outer - core * core) * 22 / divisor;
        }
    }

    /** The bytes that grades and leaves are told in. */
    private static final class Tape {
        private static final int MOST_BYTES = 600;
        private static final int BYTES_OF_FEED = 20;

        private final int[] bytes;
        private int length;

        private Tape() {
            bytes = new int[MOST_BYTES];
            length = 0;
        }

        private boolean hasRoomForFeed() {
            return length + BYTES_OF_FEED <= bytes.length;
        }

        private void append(int four) {
            for (int shift = 24; shift >= 0 && length < bytes.length; shift -= 8) {
                bytes[length] = (four >>> shift) & 255;
                length++;
            }
        }

        private boolean keep(int n) {
            if (n < 0 || n > length) {
                return false;
            }
            length = n;
            return true;
        }

        /** The byte at a place; NONE beyond the end. */
        private int byteAt(int place) {
            return place >= 0 && place < length && place < bytes.length ? bytes[place] : NONE;
        }
    }

    /** Grades that have been read: widths, worths, and what must hold for a sheet, as code for a stack. */
    private static final class Grades {
        private static final int MOST_LINES = 8;
        private static final int MOST_TERMS = 60;
        private static final int WIDEST = 100;
        private static final int MOST_WORTH = 9999;
        // The terms, the 59 signs and words at most that join them, and a not for each three bytes of the tape.
        private static final int MOST_STEPS = 2 * MOST_TERMS + Tape.MOST_BYTES / 3;
        // An 'or' and an 'and' may wait at each of six depths, and a comparison and a sum behind them.
        private static final int STACK_SIZE = 32;

        private final int[] widths;
        private final int[] worths;
        private final int[] codeEnds;
        private final int[] code;
        private final int[] stack;
        private int lines;
        private int codeLength;
        private int stacked;

        private Grades() {
            widths = new int[MOST_LINES];
            worths = new int[MOST_LINES];
            codeEnds = new int[MOST_LINES];
            code = new int[MOST_STEPS];
            stack = new int[STACK_SIZE];
            lines = 0;
            codeLength = 0;
            stacked = 0;
        }

        private void clear() {
            lines = 0;
            codeLength = 0;
        }

        private void emit(int step) {
            if (codeLength < code.length) {
                code[codeLength] = step;
                codeLength++;
            }
        }

        private void addLine(int width, int value) {
            if (lines < MOST_LINES) {
                widths[lines] = width;
                worths[lines] = value;
                codeEnds[lines] = codeLength;
                lines++;
            }
        }

        private void copyFrom(Grades other) {
            lines = other.lines;
            codeLength = other.codeLength;
            for (int line = 0; line < MOST_LINES; line++) {
                widths[line] = other.widths[line];
                worths[line] = other.worths[line];
                codeEnds[line] = other.codeEnds[line];
            }
            for (int at = 0; at < codeLength && at < code.length; at++) {
                code[at] = other.code[at];
            }
        }

        private int widthOf(int line) {
            return line >= 0 && line < MOST_LINES ? widths[line] : 0;
        }

        private int worthOf(int line) {
            return line >= 0 && line < MOST_LINES ? worths[line] : 0;
        }

        private int codeEndOf(int line) {
            return line >= 0 && line < MOST_LINES ? codeEnds[line] : 0;
        }

        /** Whether what a line asks for holds for a part of a leaf. */
        private boolean holds(int line, Part part) {
            stacked = 0;
            int stop = Math.min(codeEndOf(line), code.length);
            int first = Math.max(0, codeEndOf(line - 1));
            for (int at = first; at < stop; at++) {
                doStep(code[at], part);
            }
            return first >= stop || pop() != 0;
        }

        private void doStep(int step, Part part) {
            if (step >= 0) {
                push(step);
            } else if (step >= RUN) {
                push(part.countOf(step));
            } else if (step == NOT) {
                push(pop() == 0 ? 1 : 0);
            } else {
                int right = pop();
                int left = pop();
                push(joined(step, left, right));
            }
        }

        private static int joined(int step, int left, int right) {
            switch (step) {
                case AND: return left & right;
                case OR: return left | right;
                case LESS: return left < right ? 1 : 0;
                case MORE: return left > right ? 1 : 0;
                case SAME: return left == right ? 1 : 0;
                case PLUS: return left + right;
                case MINUS: return left - right;
                default: return 0;
            }
        }

        private void push(int value) {
            if (stacked >= 0 && stacked < stack.length) {
                stack[stacked] = value;
                stacked++;
            }
        }

        private int pop() {
            if (stacked <= 0 || stacked > stack.length) {
                return 0;
            }
            stacked--;
            return stack[stacked];
        }
    }

    /** The tape as tokens, each with the place at which it begins. */
    private static final class Tokens {
        private static final int LONGEST_WORD = 8;
        private static final int LONGEST_NUMBER = 4;

        private final int[] kinds;
        private final int[] places;
        private int count;

        private Tokens() {
            kinds = new int[Tape.MOST_BYTES + 1];
            places = new int[Tape.MOST_BYTES + 1];
            count = 0;
        }

        private void split(Tape tape) {
            count = 0;
            int place = 0;
            while (place < tape.length) {
                int stop = Math.max(endAt(tape, place), place + 1);
                if (!isBlank(tape.byteAt(place))) {
                    add(kindAt(tape, place, stop), place);
                }
                place = stop;
            }
            add(END, tape.length);
        }

        private void add(int kind, int place) {
            if (count >= 0 && count < kinds.length) {
                kinds[count] = kind;
                places[count] = place;
                count++;
            }
        }

        private static int endAt(Tape tape, int from) {
            int place = from;
            if (isDigit(tape.byteAt(place))) {
                while (place < tape.length && isDigit(tape.byteAt(place))) {
                    place++;
                }
                return place;
            }
            while (place < tape.length && isLetter(tape.byteAt(place))) {
                place++;
            }
            return place;
        }

        private static int kindAt(Tape tape, int from, int behind) {
            int first = tape.byteAt(from);
            if (isDigit(first)) {
                return numberAt(tape, from, behind);
            }
            if (isLetter(first)) {
                return behind - from > LONGEST_WORD ? BROKEN : wordAt(tape, from, behind);
            }
            return signOf(first);
        }

        private static int numberAt(Tape tape, int from, int behind) {
            if (behind - from > LONGEST_NUMBER || isLetter(tape.byteAt(behind))) {
                return BROKEN;
            }
            int value = 0;
            for (int place = from; place < behind; place++) {
                value = value * 10 + tape.byteAt(place) - '0';
            }
            return value;
        }

        private static int wordAt(Tape tape, int from, int behind) {
            if (isWord(tape, from, behind, "grade")) {
                return GRADE;
            }
            if (isWord(tape, from, behind, "worth")) {
                return WORTH;
            }
            if (isWord(tape, from, behind, "when")) {
                return WHEN;
            }
            if (isWord(tape, from, behind, "not")) {
                return NOT;
            }
            if (isWord(tape, from, behind, "and")) {
                return AND;
            }
            return isWord(tape, from, behind, "or") ? OR : termAt(tape, from, behind);
        }

        private static int termAt(Tape tape, int from, int behind) {
            if (isWord(tape, from, behind, "knots")) {
                return KNOTS;
            }
            if (isWord(tape, from, behind, "splits")) {
                return SPLITS;
            }
            if (isWord(tape, from, behind, "holes")) {
                return HOLES;
            }
            if (isWord(tape, from, behind, "plugs")) {
                return PLUGS;
            }
            return isWord(tape, from, behind, "run") ? RUN : OTHER_WORD;
        }

        private static boolean isWord(Tape tape, int from, int behind, String word) {
            if (behind - from != word.length()) {
                return false;
            }
            for (int at = 0; at < word.length(); at++) {
                if (tape.byteAt(from + at) != word.charAt(at)) {
                    return false;
                }
            }
            return true;
        }

        private static int signOf(int sign) {
            switch (sign) {
                case ';': return SEMICOLON;
                case '(': return OPEN;
                case ')': return CLOSE;
                case '<': return LESS;
                case '>': return MORE;
                case '=': return SAME;
                case '+': return PLUS;
                case '-': return MINUS;
                default: return BROKEN;
            }
        }

        private static boolean isBlank(int sign) {
            return sign == 32 || sign == 10;
        }

        private static boolean isLetter(int sign) {
            return within(sign, 'a', 'z');
        }

        private static boolean isDigit(int sign) {
            return within(sign, '0', '9');
        }
    }

    /** Reads tokens as grades into a draft, from the left up to the first fault. */
    private static final class GradeReader {
        private static final int MOST_WITHIN = 6;

        private final Tokens tokens;
        private final Grades draft;
        private int fault;
        private int number;
        private int token;
        private int terms;

        private GradeReader() {
            tokens = new Tokens();
            draft = new Grades();
            fault = NO_FAULT;
        }

        private boolean readLines(Tape tape) {
            tokens.split(tape);
            draft.clear();
            fault = NO_FAULT;
            terms = 0;
            number = -1;
            advance();
            for (int line = 0; line < Grades.MOST_LINES && token != END; line++) {
                if (!readLine()) {
                    return false;
                }
            }
            return token == END || refuse();
        }

        private boolean readLine() {
            if (!readToken(GRADE)) {
                return false;
            }
            int width = token;
            if (!readNumber(1, Grades.WIDEST) || !readToken(WORTH)) {
                return false;
            }
            int value = token;
            if (!readNumber(1, Grades.MOST_WORTH)) {
                return false;
            }
            if (token == WHEN) {
                advance();
                if (!readEither(0)) {
                    return false;
                }
            }
            if (!readToken(SEMICOLON)) {
                return false;
            }
            draft.addLine(width, value);
            return true;
        }

        private boolean readEither(int depth) {
            if (depth >= MOST_WITHIN) {
                return refuse();
            }
            if (!readBoth(depth)) {
                return false;
            }
            for (int more = 0; more < Grades.MOST_TERMS && token == OR; more++) {
                advance();
                if (!readBoth(depth)) {
                    return false;
                }
                draft.emit(OR);
            }
            return true;
        }

        private boolean readBoth(int depth) {
            if (!readOne(depth)) {
                return false;
            }
            for (int more = 0; more < Grades.MOST_TERMS && token == AND; more++) {
                advance();
                if (!readOne(depth)) {
                    return false;
                }
                draft.emit(AND);
            }
            return true;
        }

        private boolean readOne(int depth) {
            if (depth >= MOST_WITHIN) {
                return refuse();
            }
            if (token == NOT) {
                advance();
                if (!readOne(depth + 1)) {
                    return false;
                }
                draft.emit(NOT);
                return true;
            }
            if (token == OPEN) {
                advance();
                return readEither(depth + 1) && readToken(CLOSE);
            }
            if (!readSum()) {
                return false;
            }
            int sign = token;
            if (sign != LESS && sign != MORE && sign != SAME) {
                return refuse();
            }
            advance();
            if (!readSum()) {
                return false;
            }
            draft.emit(sign);
            return true;
        }

        private boolean readSum() {
            int sign = NONE;
            for (int term = 0; term <= Grades.MOST_TERMS; term++) {
                if (terms >= Grades.MOST_TERMS || token < RUN) {
                    return refuse();
                }
                draft.emit(token);
                terms++;
                advance();
                if (term > 0) {
                    draft.emit(sign);
                }
                if (token != PLUS && token != MINUS) {
                    return true;
                }
                sign = token;
                advance();
            }
            return refuse();
        }

        private boolean readToken(int wanted) {
            if (token != wanted) {
                return refuse();
            }
            advance();
            return true;
        }

        private boolean readNumber(int low, int high) {
            if (token < 0) {
                return refuse();
            }
            if (!within(token, low, high)) {
                fault = BAD_NUMBER;
                return false;
            }
            advance();
            return true;
        }

        /** The token can't stand where it does; answers false, so that a reader can end with it. */
        private boolean refuse() {
            fault = token == BROKEN ? NO_TOKEN : OUT_OF_PLACE;
            return false;
        }

        private void advance() {
            number++;
            boolean there = number >= 0 && number < tokens.count && number < tokens.kinds.length;
            token = there ? tokens.kinds[number] : END;
        }

        /** The place of the token at which the reading ended. */
        private int placeReached() {
            boolean there = number >= 0 && number < tokens.count && number < tokens.places.length;
            return there ? tokens.places[number] : NONE;
        }
    }

    /** The marks of the leaf, held so that what a part has is told without going through its marks. */
    private static final class Leaf {
        private static final int MOST_MARKS = 300;

        private final int[] knotsBefore;
        private final int[] splitsBefore;
        private final int[] holesBefore;
        private final int[] plugsBefore;
        // How many marks right before a place are clear, one behind the other.
        private final int[] clearBefore;
        private int count;

        private Leaf() {
            knotsBefore = new int[MOST_MARKS + 1];
            splitsBefore = new int[MOST_MARKS + 1];
            holesBefore = new int[MOST_MARKS + 1];
            plugsBefore = new int[MOST_MARKS + 1];
            clearBefore = new int[MOST_MARKS + 1];
            count = 0;
        }

        /** The place of the first byte that is no mark of a leaf; NONE if all are. */
        private static int firstFault(Tape tape) {
            for (int place = 0; place < tape.length; place++) {
                if (place >= MOST_MARKS || !isMark(tape.byteAt(place))) {
                    return place;
                }
            }
            return NONE;
        }

        private static boolean isMark(int sign) {
            return sign == '.' || sign == 'k' || sign == 's' || sign == 'o' || sign == 'p';
        }

        private void take(Tape tape) {
            count = Math.min(tape.length, MOST_MARKS);
            for (int at = 0; at < count; at++) {
                int mark = tape.byteAt(at);
                knotsBefore[at + 1] = knotsBefore[at] + (mark == 'k' ? 1 : 0);
                splitsBefore[at + 1] = splitsBefore[at] + (mark == 's' ? 1 : 0);
                holesBefore[at + 1] = holesBefore[at] + (mark == 'o' ? 1 : 0);
                plugsBefore[at + 1] = plugsBefore[at] + (mark == 'p' ? 1 : 0);
                clearBefore[at + 1] = mark == '.' ? clearBefore[at] + 1 : 0;
            }
        }

        /** Writes, for each length of a part that begins at a mark, its longest run. */
        private void listRuns(int from, int[] runs) {
            int longest = 0;
            for (int length = 1; from >= 0 && from + length <= count && length < runs.length; length++) {
                longest = Math.max(longest, Math.min(length, clearBefore[from + length]));
                runs[length] = longest;
            }
        }

        private static int between(int[] before, int from, int behind) {
            if (from < 0 || from > behind || behind >= before.length) {
                return 0;
            }
            return before[behind] - before[from];
        }
    }

    /** A part of the leaf, and what the terms of a grade find in it. */
    private static final class Part {
        private final Leaf marks;
        // By how many marks the part has from where it begins: its longest run.
        private final int[] runs;
        private int from;
        private int knots;
        private int splits;
        private int holes;
        private int plugs;
        private int run;
        private int patched;

        private Part(Leaf marks) {
            this.marks = marks;
            runs = new int[Grades.WIDEST + 1];
        }

        private void beginAt(int mark) {
            from = mark;
            marks.listRuns(mark, runs);
        }

        private void endBefore(int behind) {
            knots = Leaf.between(marks.knotsBefore, from, behind);
            splits = Leaf.between(marks.splitsBefore, from, behind);
            holes = Leaf.between(marks.holesBefore, from, behind);
            plugs = Leaf.between(marks.plugsBefore, from, behind);
            int length = behind - from;
            run = length >= 0 && length < runs.length ? runs[length] : 0;
        }

        private int countOf(int term) {
            switch (term) {
                case KNOTS: return knots;
                case SPLITS: return splits;
                case HOLES: return holes - patched;
                case PLUGS: return plugs + patched;
                case RUN: return run;
                default: return 0;
            }
        }
    }

    /** The leaf clipped into the sheets that are worth most, found from its right end on. */
    private static final class Clipping {
        private final Grades grading;
        private final Leaf marks;
        private final Part part;
        // For each mark: what the leaf from there on is worth at most, in how many sheets,
        // and the grade of the sheet that begins there (NONE: none does).
        private final int[] worthFrom;
        private final int[] sheetsFrom;
        private final int[] gradeAt;
        private final int[] patchedAt;
        private final int[] begins;
        private int patches;
        private int cost;
        private int found;
        private boolean stale;

        private Clipping(Grades grading, Leaf marks) {
            this.grading = grading;
            this.marks = marks;
            part = new Part(marks);
            worthFrom = new int[Leaf.MOST_MARKS + 1];
            sheetsFrom = new int[Leaf.MOST_MARKS + 1];
            gradeAt = new int[Leaf.MOST_MARKS + 1];
            patchedAt = new int[Leaf.MOST_MARKS + 1];
            begins = new int[Leaf.MOST_MARKS];
            patches = 0;
            cost = 1;
            found = 0;
            stale = true;
        }

        private void forget() {
            stale = true;
        }

        private void setPatching(int patches, int cost) {
            this.patches = patches;
            this.cost = cost;
            stale = true;
        }

        private boolean isSheet(int from, int line, int patched) {
            part.beginAt(from);
            part.endBefore(from + grading.widthOf(line));
            return partIsSheet(line, patched);
        }

        private boolean partIsSheet(int line, int patched) {
            part.patched = patched;
            return patched <= patches && patched <= part.holes && grading.holds(line, part);
        }

        private void find() {
            if (!stale) {
                return;
            }
            stale = false;
            int count = Math.min(marks.count, Leaf.MOST_MARKS);
            worthFrom[count] = 0;
            sheetsFrom[count] = 0;
            for (int at = count - 1; at >= 0; at--) {
                worthFrom[at] = worthFrom[at + 1];
                sheetsFrom[at] = sheetsFrom[at + 1];
                gradeAt[at] = NONE;
                patchedAt[at] = 0;
                part.beginAt(at);
                for (int line = 0; line < grading.lines; line++) {
                    trySheets(at, line);
                }
            }
            listSheets(count);
        }

        // More holes patched are never worth more, so the first that makes a sheet is the one for this grade.
        private void trySheets(int at, int line) {
            int behind = at + grading.widthOf(line);
            if (at < 0 || behind <= at || behind > marks.count || behind >= worthFrom.length) {
                return;
            }
            part.endBefore(behind);
            int total = grading.worthOf(line) + worthFrom[behind];
            int parts = 1 + sheetsFrom[behind];
            for (int patched = 0; patched <= patches && isBetter(at, total, parts); patched++) {
                if (partIsSheet(line, patched)) {
                    worthFrom[at] = total;
                    sheetsFrom[at] = parts;
                    gradeAt[at] = line;
                    patchedAt[at] = patched;
                    return;
                }
                total -= cost;
            }
        }

        // Of like ways a sheet that begins here goes before ways that begin later.
        private boolean isBetter(int at, int total, int parts) {
            if (at < 0 || at >= worthFrom.length) {
                return false;
            }
            if (total != worthFrom[at]) {
                return total > worthFrom[at];
            }
            if (parts != sheetsFrom[at]) {
                return parts < sheetsFrom[at];
            }
            return gradeAt[at] == NONE;
        }

        private void listSheets(int count) {
            found = 0;
            int behind = 0;
            for (int mark = 0; mark < count; mark++) {
                if (mark < behind || gradeAt[mark] == NONE || found >= begins.length) {
                    continue;
                }
                begins[found] = mark;
                found++;
                behind = mark + grading.widthOf(gradeAt[mark]);
            }
        }

        private int totalWorth() {
            return worthFrom[0];
        }

        private int tell(int k, int what) {
            if (k < 0 || k >= found || k >= begins.length) {
                return NONE;
            }
            int begin = begins[k];
            if (begin < 0 || begin >= gradeAt.length) {
                return NONE;
            }
            switch (what) {
                case 0: return begin;
                case 1: return gradeAt[begin];
                case 2: return patchedAt[begin];
                default: return NONE;
            }
        }
    }

    /** The kinds of veneer, and the boards that are laid of them. */
    private static final class Veneers {
        private static final int KINDS = 6;
        private static final int MOST_LAYERS = 9;
        private static final int MOST_PRICE = 1000;

        private final int[] thicks;
        private final int[] offs;
        private final int[] prices;
        private final boolean[] fairs;
        private int layers;
        private int low;
        private int high;
        private int leastPrice;
        private int cheapestKinds;

        private Veneers() {
            thicks = new int[KINDS];
            offs = new int[KINDS];
            prices = new int[KINDS];
            fairs = new boolean[KINDS];
            for (int kind = 0; kind < KINDS; kind++) {
                thicks[kind] = 10;
                offs[kind] = 0;
                prices[kind] = 1;
                fairs[kind] = true;
            }
        }

        private void set(int kind, int thick, int off, int price, boolean fair) {
            if (kind < 0 || kind >= KINDS) {
                return;
            }
            thicks[kind] = thick;
            offs[kind] = off;
            prices[kind] = price;
            fairs[kind] = fair;
        }

        private static boolean canBe(int n, int kinds) {
            if (!within(n, 1, MOST_LAYERS) || kinds >>> (3 * n) != 0) {
                return false;
            }
            for (int layer = 0; layer < n; layer++) {
                if (kindAt(kinds, layer) >= KINDS) {
                    return false;
                }
            }
            return true;
        }

        private static int kindAt(int kinds, int layer) {
            return (kinds >>> (3 * layer)) & 7;
        }

        private static int ofKind(int[] row, int kind) {
            return kind >= 0 && kind < row.length ? row[kind] : 0;
        }

        private static int sumOf(int[] row, int n, int kinds) {
            int sum = 0;
            for (int layer = 0; layer < n; layer++) {
                sum += ofKind(row, kindAt(kinds, layer));
            }
            return sum;
        }

        private int thinOf(int n, int kinds) {
            return sumOf(thicks, n, kinds) - sumOf(offs, n, kinds);
        }

        private int thickOf(int n, int kinds) {
            return sumOf(thicks, n, kinds) + sumOf(offs, n, kinds);
        }

        private int priceOf(int n, int kinds) {
            return sumOf(prices, n, kinds);
        }

        private int warpOf(int n, int kinds) {
            int below = 0;
            int above = sumOf(thicks, n, kinds);
            int sum = 0;
            for (int layer = 0; layer < n; layer++) {
                int thick = ofKind(thicks, kindAt(kinds, layer));
                above -= thick;
                int pull = thick * (below - above);
                sum += layer % 2 == 0 ? pull : -pull;
                below += thick;
            }
            return sum;
        }

        private int cheapest(int n, int lowest, int highest) {
            layers = n;
            low = lowest;
            high = highest;
            leastPrice = MOST_LAYERS * MOST_PRICE + 1;
            cheapestKinds = NONE;
            lay(0, 0, 0, 0, 0);
            return cheapestKinds;
        }

        // Lays the lower half and the middle; each layer below the middle counts for the like one above it too.
        // Kinds are tried from 0 on, so of like prices the first found is the first from the lowest layer on.
        private void lay(int layer, int thin, int thick, int price, int kinds) {
            if (price >= leastPrice || thick > high) {
                return;
            }
            int middle = layers / 2;
            if (layer > middle || layer >= MOST_LAYERS) {
                if (thin >= low) {
                    leastPrice = price;
                    cheapestKinds = kinds;
                }
                return;
            }
            int times = layer == middle ? 1 : 2;
            for (int kind = 0; kind < KINDS; kind++) {
                if (layer == 0 && !fairs[kind]) {
                    continue;
                }
                int laid = kinds | kind << (3 * layer) | kind << (3 * (layers - 1 - layer));
                int thinner = thin + times * (thicks[kind] - offs[kind]);
                int thicker = thick + times * (thicks[kind] + offs[kind]);
                lay(layer + 1, thinner, thicker, price + times * prices[kind], laid);
            }
        }
    }

    /** The press, the boards that are glued, and the plan by which most of them are pressed. */
    private static final class Press {
        private static final int MOST_BOARDS = 10;
        private static final int SETS = 1 << MOST_BOARDS;

        private final int[] thicks;
        private final int[] minutes;
        // By set of boards: how thick those of one load are (0: they can't be one load),
        // the minutes from and to which it can be put in.
        private final int[] loadThick;
        private final int[] gluedBy;
        private final int[] aliveTo;
        // By set of boards: when all can be out, times SETS, plus the last load by which they are (NONE: never).
        // So the least number is of the soonest out, and of like ones of the least load.
        private final int[] endings;
        private final int[] loads;
        private final int[] putIn;
        private int boards;
        private int openings;
        private int base;
        private int per;
        private int life;
        private int chosen;
        private int loadCount;
        private boolean stale;

        private Press() {
            thicks = new int[MOST_BOARDS];
            minutes = new int[MOST_BOARDS];
            loadThick = new int[SETS];
            gluedBy = new int[SETS];
            aliveTo = new int[SETS];
            endings = new int[SETS];
            loads = new int[MOST_BOARDS];
            putIn = new int[MOST_BOARDS];
            boards = 0;
            openings = 1;
            base = 10;
            per = 1;
            life = 60;
            chosen = 0;
            loadCount = 0;
            stale = true;
        }

        private void set(int openings, int base, int per, int life) {
            this.openings = openings;
            this.base = base;
            this.per = per;
            this.life = life;
            stale = true;
        }

        private int addBoard(int thick, int minute) {
            if (boards < 0 || boards >= MOST_BOARDS) {
                return NONE;
            }
            thicks[boards] = thick;
            minutes[boards] = minute;
            boards++;
            stale = true;
            return boards - 1;
        }

        private boolean removeBoard() {
            if (boards <= 0) {
                return false;
            }
            boards--;
            stale = true;
            return true;
        }

        private void find() {
            if (!stale) {
                return;
            }
            stale = false;
            int sets = Math.min(1 << boards, SETS);
            for (int board = 0; board < boards; board++) {
                describeSetsUpTo(board);
            }
            endings[0] = 0;
            for (int set = 1; set < sets; set++) {
                endings[set] = findEnding(set);
            }
            choose(sets);
            listLoads();
        }

        // All sets whose highest board is this one, each from the set without it.
        private void describeSetsUpTo(int board) {
            if (board < 0 || board >= MOST_BOARDS) {
                return;
            }
            int bit = 1 << board;
            int thick = thicks[board];
            int minute = minutes[board];
            for (int rest = 0; rest < bit && rest + bit < SETS; rest++) {
                int set = rest + bit;
                gluedBy[set] = rest == 0 ? minute : Math.max(gluedBy[rest], minute);
                aliveTo[set] = rest == 0 ? minute + life : Math.min(aliveTo[rest], minute + life);
                boolean alike = rest == 0 || loadThick[rest] == thick;
                boolean fits = Integer.bitCount(set) <= openings && gluedBy[set] <= aliveTo[set];
                loadThick[set] = alike && fits ? thick : 0;
            }
        }

        private int findEnding(int set) {
            int ending = NONE;
            int parts = 1 << Integer.bitCount(set);
            int part = 0;
            for (int count = 1; count < parts; count++) {
                part = (part - set) & set;
                int out = outWith(part, set - part);
                if (out != NONE && (ending == NONE || out * SETS + part < ending)) {
                    ending = out * SETS + part;
                }
            }
            return ending;
        }

        /** When a load is out that is put in behind all of the rest; NONE if it can't be. */
        private int outWith(int load, int rest) {
            if (load < 0 || load >= SETS || rest < 0 || rest >= SETS) {
                return NONE;
            }
            if (loadThick[load] == 0 || endings[rest] == NONE) {
                return NONE;
            }
            int free = endings[rest] / SETS;
            return free > aliveTo[load] ? NONE : Math.max(free, gluedBy[load]) + base + per * loadThick[load];
        }

        private void choose(int sets) {
            chosen = 0;
            for (int set = 1; set < sets; set++) {
                int more = Integer.bitCount(set) - Integer.bitCount(chosen);
                boolean sooner = outOf(set) < outOf(chosen);
                if (outOf(set) != NONE && (more > 0 || (more == 0 && sooner))) {
                    chosen = set;
                }
            }
        }

        private int outOf(int set) {
            return set < 0 || set >= SETS || endings[set] == NONE ? NONE : endings[set] / SETS;
        }

        private int lastLoadOf(int set) {
            return set < 0 || set >= SETS || endings[set] == NONE ? 0 : endings[set] % SETS;
        }

        private void listLoads() {
            loadCount = 0;
            int set = chosen;
            for (int load = 0; load < MOST_BOARDS && set > 0; load++) {
                set -= lastLoadOf(set);
                loadCount++;
            }
            set = chosen;
            for (int at = loadCount - 1; at >= 0; at--) {
                int last = lastLoadOf(set);
                set -= last;
                writeLoad(at, last, outOf(set));
            }
        }

        private void writeLoad(int at, int load, int free) {
            if (at < 0 || at >= MOST_BOARDS || load < 0 || load >= SETS) {
                return;
            }
            loads[at] = load;
            putIn[at] = Math.max(free, gluedBy[load]);
        }

        private int tell(int k, int what) {
            if (k < 0 || k >= loadCount || k >= MOST_BOARDS) {
                return NONE;
            }
            switch (what) {
                case 0: return loads[k];
                case 1: return putIn[k];
                default: return NONE;
            }
        }
    }
}
