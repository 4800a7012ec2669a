/**
 * A library of cells that is read from a text: pins, functions, arcs with tables, power by states.
 * The document says what each call answers; README.md says how to use it.
 */
public final class CellLibrary {
    public static final int NONE = -1;

    private static final int TAPE_ROOM = 1400;
    private static final int TABLE_ROOM = 12;
    private static final int CELL_ROOM = 12;
    private static final int INPUT_ROOM = 6;
    private static final int OUTPUT_ROOM = 3;
    private static final int ARC_ROOM = 10;
    private static final int AXIS_ROOM = 4;
    private static final int BRACKET_ROOM = 16;
    private static final int STATE_ROOM = 1 << INPUT_ROOM;
    private static final int LARGEST_ASKED = 1000000;

    private final char[] tape = new char[TAPE_ROOM];
    private int tapeLength;
    private Shelf shelf = new Shelf();
    private final Reader reader = new Reader();
    private final Matcher matcher = new Matcher();
    private final int[] members = new int[CELL_ROOM];

    public CellLibrary() {
    }

    public boolean unit(int u) {
        if (!mayStandOnTape(u) || tapeLength >= TAPE_ROOM) {
            return false;
        }
        tape[tapeLength] = (char) u;
        tapeLength++;
        return true;
    }

    public boolean units(int four) {
        // What lies behind tapeLength is never read, so a refusal half way needs no undoing.
        int end = tapeLength;
        for (int shift = 24; shift >= 0; shift -= 8) {
            int u = (four >>> shift) & 255;
            if (u != 0) {
                if (!mayStandOnTape(u) || end >= TAPE_ROOM) {
                    return false;
                }
                tape[end] = (char) u;
                end++;
            }
        }
        tapeLength = end;
        return true;
    }

    public int read() {
        int length = tapeLength;
        tapeLength = 0;
        try {
            reader.readText(tape, length);
        } catch (IllegalStateException refusal) {
            return -1 - reader.place();
        }
        shelf = reader.exchange(shelf);
        return shelf.cellCount;
    }

    public int cell(int k, int what) throws IndexOutOfBoundsException {
        Cell asked = cellAt(k);
        switch (what) {
            case 0:
                return asked.inputs;
            case 1:
                return asked.outputs;
            case 2:
                return asked.arcCount;
            case 3:
                return asked.amounts[Cell.DRIVE];
            case 4:
                return asked.amounts[Cell.LOAD];
            case 5:
                return asked.amounts[Cell.AREA];
            case 6:
                return asked.disagreeing();
            case 7:
                return asked.place;
            default:
                throw new IndexOutOfBoundsException();
        }
    }

    public long truth(int cell, int output) throws IndexOutOfBoundsException {
        Cell asked = cellAt(cell);
        requireIndex(output, asked.outputs);
        return asked.truths[output];
    }

    public int sense(int cell, int input, int output) throws IndexOutOfBoundsException {
        Cell asked = cellAt(cell);
        requireIndex(input, asked.inputs);
        requireIndex(output, asked.outputs);
        return Functions.senseOf(asked.truths[output], input);
    }

    public int arc(int cell, int k, int what) throws IndexOutOfBoundsException {
        Cell asked = cellAt(cell);
        requireIndex(k, asked.arcCount);
        requireIndex(what, Cell.ARC_PARTS + 1);
        if (what < Cell.ARC_PARTS) {
            return asked.arcPart(k, what);
        }
        return asked.agrees(k) ? 1 : 0;
    }

    public int delay(int cell, int arc, int slope, int load, boolean rises)
            throws IndexOutOfBoundsException, IllegalArgumentException {
        Cell asked = cellAt(cell);
        requireIndex(arc, asked.arcCount);
        if (slope < 0 || slope > LARGEST_ASKED || load < 0 || load > LARGEST_ASKED) {
            throw new IllegalArgumentException();
        }
        int table = asked.arcPart(arc, rises ? Cell.ARC_RISE : Cell.ARC_FALL);
        return shelf.tables[table].joined(slope, load);
    }

    public int power(int cell, int state) throws IndexOutOfBoundsException {
        Cell asked = cellAt(cell);
        requireIndex(state, asked.states());
        return asked.powerTold ? asked.powers[state] : 0;
    }

    public boolean alike(int a, int b) throws IndexOutOfBoundsException {
        Cell one = cellAt(a);
        Cell other = cellAt(b);
        return matcher.match(one, other);
    }

    public int order(int a, int b, int k) throws IndexOutOfBoundsException {
        Cell one = cellAt(a);
        Cell other = cellAt(b);
        requireIndex(k, one.inputs);
        return matcher.match(one, other) ? matcher.standsFor[k] : NONE;
    }

    public int family(int cell, int i) throws IndexOutOfBoundsException {
        Cell asked = cellAt(cell);
        requireNotBelowZero(i);
        return i < gatherMembers(asked) ? members[i] : NONE;
    }

    public int best(int cell, int load) throws IndexOutOfBoundsException, IllegalArgumentException {
        Cell asked = cellAt(cell);
        if (load < 0) {
            throw new IllegalArgumentException();
        }
        int size = gatherMembers(asked);
        int smallest = NONE;
        int leastArea = 0;
        for (int i = 0; i < size; i++) {
            int[] amounts = shelf.cells[members[i]].amounts;
            boolean smaller = smallest == NONE || amounts[Cell.AREA] < leastArea;
            if (amounts[Cell.LOAD] >= load && smaller) {
                smallest = members[i];
                leastArea = amounts[Cell.AREA];
            }
        }
        return smallest;
    }

    public int letter(int cell, int pin, int i) throws IndexOutOfBoundsException {
        Cell asked = cellAt(cell);
        if (pin != NONE) {
            requireIndex(pin, asked.inputs + asked.outputs);
        }
        requireNotBelowZero(i);
        return Names.characterOf(pin == NONE ? asked.name : asked.pins[pin], i);
    }

    public int count(int what) throws IndexOutOfBoundsException {
        switch (what) {
            case 0:
                return shelf.cellCount;
            case 1:
                return shelf.tableCount;
            case 2:
                return tapeLength;
            default:
                throw new IndexOutOfBoundsException();
        }
    }

    private static boolean mayStandOnTape(int u) {
        return u >= 32 && u <= 126 || u == '\n';
    }

    private Cell cellAt(int k) {
        requireIndex(k, shelf.cellCount);
        return shelf.cells[k];
    }

    private static void requireIndex(int index, int size) {
        if (index < 0 || index >= size) {
            throw new IndexOutOfBoundsException();
        }
    }

    private static void requireNotBelowZero(int i) {
        if (i < 0) {
            throw new IndexOutOfBoundsException();
        }
    }

    /** Puts the family into the row of members, in its order; answers how many they are. */
    private int gatherMembers(Cell head) {
        int size = 0;
        for (int c = 0; c < shelf.cellCount; c++) {
            Cell next = shelf.cells[c];
            if (matcher.match(head, next)) {
                int at = size;
                while (at > 0 && next.comesBefore(shelf.cells[members[at - 1]])) {
                    members[at] = members[at - 1];
                    at--;
                }
                members[at] = c;
                size++;
            }
        }
        return size;
    }

    /**
     * A name is kept as a long, its first character in the highest byte: eight characters fill one,
     * and the order of such numbers is the order of the names. No name is 0.
     */
    private static final class Names {
        static final int ROOM = 8;

        private Names() {
        }

        static long packed(char[] text, int start, int end) {
            long name = 0;
            for (int i = 0; i < ROOM; i++) {
                name = name << 8 | (start + i < end ? text[start + i] : 0);
            }
            return name;
        }

        static int characterOf(long name, int i) {
            int character = i < ROOM ? (int) (name >>> (8 * (ROOM - 1 - i))) & 255 : 0;
            return character == 0 ? NONE : character;
        }

        static int find(long name, long[] row, int size) {
            for (int i = 0; i < size; i++) {
                if (row[i] == name) {
                    return i;
                }
            }
            return NONE;
        }
    }

    /** Functions as their truths: bit s is the value at state s. */
    private static final class Functions {
        static final int UNCHANGED = 2;

        // The truth of each input itself: the states in which it is 1.
        private static final long[] INPUTS = {
            0xAAAAAAAAAAAAAAAAL, 0xCCCCCCCCCCCCCCCCL, 0xF0F0F0F0F0F0F0F0L,
            0xFF00FF00FF00FF00L, 0xFFFF0000FFFF0000L, 0xFFFFFFFF00000000L,
        };

        private Functions() {
        }

        static long within(long truth, int states) {
            return truth & (-1L >>> (STATE_ROOM - states));
        }

        static int senseOf(long truth, int input) {
            long when0 = truth & ~INPUTS[input];
            long when1 = (truth & INPUTS[input]) >>> (1 << input);
            boolean rises = (when1 & ~when0) != 0;
            boolean falls = (when0 & ~when1) != 0;
            if (rises) {
                return falls ? 0 : 1;
            }
            return falls ? -1 : UNCHANGED;
        }
    }

    /** The words of a text, one at a time. */
    private static final class Words {
        static final int END = 0;
        static final int NAME = 1;
        static final int NUMBER = 2;
        static final int SIGN = 3;
        static final int TOO_LONG = 4;

        private static final int DIGITS = 6;

        private char[] text = new char[0];
        private int length;
        private int start;
        private int end;
        private int kind;

        void open(char[] newText, int newLength) {
            text = newText;
            length = newLength;
            end = 0;
            step();
        }

        void step() {
            start = end;
            while (start < length && (text[start] == ' ' || text[start] == '\n')) {
                start++;
            }
            end = start;
            if (start >= length) {
                kind = END;
            } else if (isDigit(text[start])) {
                while (end < length && isDigit(text[end])) {
                    end++;
                }
                kind = end - start > DIGITS ? TOO_LONG : NUMBER;
            } else if (isLetter(text[start])) {
                while (end < length && (isLetter(text[end]) || isDigit(text[end]))) {
                    end++;
                }
                kind = end - start > Names.ROOM ? TOO_LONG : NAME;
            } else {
                end++;
                kind = SIGN;
            }
        }

        boolean is(String word) {
            if (word.length() != end - start) {
                return false;
            }
            for (int i = 0; i < word.length(); i++) {
                if (word.charAt(i) != text[start + i]) {
                    return false;
                }
            }
            return true;
        }

        /** The name that stands here, 0 if the word is none. */
        long name() {
            return kind == NAME ? Names.packed(text, start, end) : 0;
        }

        int number() {
            int value = 0;
            for (int i = start; i < end; i++) {
                value = 10 * value + (text[i] - '0');
            }
            return value;
        }

        private static boolean isDigit(char c) {
            return c >= '0' && c <= '9';
        }

        private static boolean isLetter(char c) {
            return c >= 'a' && c <= 'z' || c >= 'A' && c <= 'Z' || c == '_';
        }
    }

    /** An expression that is being read: for each ( that is open what has come behind it so far. */
    private static final class Terms {
        private final long[] ors = new long[BRACKET_ROOM + 1];
        private final long[] xors = new long[BRACKET_ROOM + 1];
        private final long[] ands = new long[BRACKET_ROOM + 1];
        private final long[] turns = new long[BRACKET_ROOM + 1];
        private int open;

        void begin() {
            open = 0;
            clearLevel();
        }

        void openBracket() {
            open++;
            clearLevel();
        }

        void closeBracket() {
            long value = total();
            open--;
            put(value);
        }

        void turn() {
            turns[open] = ~turns[open];
        }

        void put(long value) {
            ands[open] &= value ^ turns[open];
            turns[open] = 0;
        }

        void endAnd() {
            xors[open] ^= ands[open];
            ands[open] = -1;
        }

        void endXor() {
            ors[open] |= xors[open] ^ ands[open];
            xors[open] = 0;
            ands[open] = -1;
        }

        long total() {
            return ors[open] | (xors[open] ^ ands[open]);
        }

        private void clearLevel() {
            ors[open] = 0;
            xors[open] = 0;
            ands[open] = -1;
            turns[open] = 0;
        }
    }

    /**
     * Reads a text onto a shelf of its own, so that a fault leaves what the library has. A text with
     * a fault ends in an IllegalStateException while the faulty word is still the current one, so
     * the place of that word is the fault.
     */
    private static final class Reader {
        private final Words words = new Words();
        private final Terms terms = new Terms();
        private Shelf shelf = new Shelf();

        int place() {
            return words.start;
        }

        /** Gives the shelf that was read; the old one takes the next text. */
        Shelf exchange(Shelf old) {
            Shelf full = shelf;
            shelf = old;
            return full;
        }

        void readText(char[] text, int length) {
            shelf.clear();
            words.open(text, length);
            for (int n = 0; n < TAPE_ROOM && words.kind != Words.END; n++) {
                if (words.is("table")) {
                    readTable();
                } else {
                    demand(words.is("cell"));
                    readCell();
                }
            }
        }

        private void readTable() {
            words.step();
            long name = words.name();
            demand(name != 0 && shelf.tableCount < TABLE_ROOM);
            demand(Names.find(name, shelf.tableNames, shelf.tableCount) == NONE);
            Table table = shelf.addTable(name);
            words.step();
            takeSign(":");
            readAxis(table.slopes);
            takeSign("/");
            readAxis(table.loads);
            takeSign("/");
            readNumbers(table.values, table.slopes.size * table.loads.size);
            takeSign(";");
        }

        private void readAxis(Axis axis) {
            axis.size = 0;
            for (int n = 0; n < AXIS_ROOM && words.kind == Words.NUMBER; n++) {
                int number = words.number();
                demand(n == 0 || number > axis.numbers[n - 1]);
                axis.numbers[n] = number;
                axis.size = n + 1;
                words.step();
            }
            demand(axis.size > 0);
        }

        private void readNumbers(int[] row, int size) {
            for (int i = 0; i < size; i++) {
                row[i] = takeNumber();
            }
        }

        private void readCell() {
            words.step();
            long name = words.name();
            demand(name != 0 && shelf.cellCount < CELL_ROOM);
            demand(!shelf.hasCell(name));
            Cell cell = shelf.addCell(name, words.start);
            words.step();
            takeSign("{");
            for (int n = 0; n < TAPE_ROOM && !words.is("}"); n++) {
                if (words.is("in")) {
                    readInput(cell);
                } else if (words.is("out")) {
                    readOutputName(cell);
                    readFunction(cell);
                } else if (words.is("drive")) {
                    readAmount(cell, Cell.DRIVE);
                } else if (words.is("load")) {
                    readAmount(cell, Cell.LOAD);
                } else if (words.is("area")) {
                    readAmount(cell, Cell.AREA);
                } else if (words.is("arc")) {
                    readArc(cell);
                } else {
                    demand(words.is("power"));
                    readPowers(cell);
                }
                takeSign(";");
            }
            demand(cell.outputs > 0);
            takeSign("}");
        }

        private void readInput(Cell cell) {
            demand(cell.outputs == 0 && !cell.powerTold);
            words.step();
            demand(cell.inputs < INPUT_ROOM);
            takeNewPin(cell);
            cell.inputs++;
        }

        private void readOutputName(Cell cell) {
            words.step();
            demand(cell.outputs < OUTPUT_ROOM);
            takeNewPin(cell);
            takeSign("=");
        }

        // No recursion: between two operators there stand only ! and (, one primary, and ).
        private void readFunction(Cell cell) {
            terms.begin();
            boolean more = true;
            for (int n = 0; n < TAPE_ROOM && more; n++) {
                readOpenings();
                terms.put(takePrimary(cell));
                readClosings();
                more = takeOperator();
            }
            demand(terms.open == 0);
            cell.truths[cell.outputs] = Functions.within(terms.total(), cell.states());
            cell.outputs++;
        }

        /** Puts the name behind the pins there are; the caller counts it in. */
        private void takeNewPin(Cell cell) {
            long name = words.name();
            demand(name != 0 && cell.pinNamed(name) == NONE);
            cell.pins[cell.inputs + cell.outputs] = name;
            words.step();
        }

        private void readAmount(Cell cell, int which) {
            demand(!cell.amountTold[which]);
            words.step();
            cell.amounts[which] = takeNumber();
            cell.amountTold[which] = true;
        }

        private void readPowers(Cell cell) {
            demand(!cell.powerTold);
            words.step();
            readNumbers(cell.powers, cell.states());
            cell.powerTold = true;
        }

        private void readArc(Cell cell) {
            demand(cell.arcCount < ARC_ROOM);
            words.step();
            int input = cell.inputNamed(words.name());
            demand(input != NONE);
            words.step();
            int output = cell.pinNamed(words.name()) - cell.inputs;
            demand(output >= 0 && !cell.hasArc(input, output));
            words.step();
            int sense = takeSense();
            int rise = takeTable();
            int fall = takeTable();
            cell.addArc(input, output, sense, rise, fall);
        }

        private int takeSense() {
            int sense = words.is("pos") ? 1 : words.is("neg") ? -1 : 0;
            demand(sense != 0 || words.is("both"));
            words.step();
            return sense;
        }

        private int takeTable() {
            int table = Names.find(words.name(), shelf.tableNames, shelf.tableCount);
            demand(table != NONE);
            words.step();
            return table;
        }

        private void readOpenings() {
            for (int n = 0; n < TAPE_ROOM && (words.is("!") || words.is("(")); n++) {
                if (words.is("!")) {
                    terms.turn();
                } else {
                    demand(terms.open < BRACKET_ROOM);
                    terms.openBracket();
                }
                words.step();
            }
        }

        private long takePrimary(Cell cell) {
            long value = words.is("1") ? -1 : 0;
            if (words.kind == Words.NAME) {
                int input = cell.inputNamed(words.name());
                demand(input != NONE);
                value = Functions.INPUTS[input];
            } else {
                demand(words.is("0") || words.is("1"));
            }
            words.step();
            return value;
        }

        private void readClosings() {
            for (int n = 0; n < TAPE_ROOM && terms.open > 0 && words.is(")"); n++) {
                terms.closeBracket();
                words.step();
            }
        }

        private boolean takeOperator() {
            if (words.is("|")) {
                terms.endXor();
            } else if (words.is("^")) {
                terms.endAnd();
            } else if (!words.is("&")) {
                return false;
            }
            words.step();
            return true;
        }

        private int takeNumber() {
            demand(words.kind == Words.NUMBER);
            int number = words.number();
            words.step();
            return number;
        }

        private void takeSign(String sign) {
            demand(words.is(sign));
            words.step();
        }

        private static void demand(boolean mayStand) {
            if (!mayStand) {
                throw new IllegalStateException();
            }
        }
    }

    /** What a text told: its tables and its cells. */
    private static final class Shelf {
        private final long[] tableNames = new long[TABLE_ROOM];
        private final Table[] tables = new Table[TABLE_ROOM];
        private final Cell[] cells = new Cell[CELL_ROOM];
        private int tableCount;
        private int cellCount;

        Shelf() {
            for (int i = 0; i < TABLE_ROOM; i++) {
                tables[i] = new Table();
            }
            for (int i = 0; i < CELL_ROOM; i++) {
                cells[i] = new Cell();
            }
        }

        void clear() {
            tableCount = 0;
            cellCount = 0;
        }

        boolean hasCell(long name) {
            for (int i = 0; i < cellCount; i++) {
                if (cells[i].name == name) {
                    return true;
                }
            }
            return false;
        }

        Table addTable(long name) {
            tableNames[tableCount] = name;
            tableCount++;
            return tables[tableCount - 1];
        }

        Cell addCell(long name, int place) {
            Cell cell = cells[cellCount];
            cell.begin(name, place);
            cellCount++;
            return cell;
        }
    }

    /** Numbers that rise. */
    private static final class Axis {
        private final int[] numbers = new int[AXIS_ROOM];
        private int size;

        int brought(int x) {
            return Math.max(numbers[0], Math.min(x, numbers[size - 1]));
        }

        int spanStart(int x) {
            int start = 0;
            for (int i = 1; i < size - 1; i++) {
                if (numbers[i] <= x) {
                    start = i;
                }
            }
            return start;
        }

        /** On an axis of one number the span ends where it starts. */
        int spanEnd(int start) {
            return Math.min(start + 1, size - 1);
        }

        int mixed(int v, int w, int start, int x) {
            int a = numbers[start];
            int b = numbers[spanEnd(start)];
            if (b <= a) {
                return v;
            }
            return v + (int) Math.floorDiv((long) (w - v) * (x - a), (long) (b - a));
        }
    }

    /** Values over slopes and loads, slope by slope. */
    private static final class Table {
        private final Axis slopes = new Axis();
        private final Axis loads = new Axis();
        private final int[] values = new int[AXIS_ROOM * AXIS_ROOM];

        int joined(int slope, int load) {
            int x = slopes.brought(slope);
            int start = slopes.spanStart(x);
            int first = joinedByLoad(start, load);
            int second = joinedByLoad(slopes.spanEnd(start), load);
            return slopes.mixed(first, second, start, x);
        }

        private int joinedByLoad(int slopeAt, int load) {
            int x = loads.brought(load);
            int start = loads.spanStart(x);
            int row = slopeAt * loads.size;
            return loads.mixed(values[row + start], values[row + loads.spanEnd(start)], start, x);
        }
    }

    /** A cell; its pins are the inputs and behind them the outputs. */
    private static final class Cell {
        static final int DRIVE = 0;
        static final int LOAD = 1;
        static final int AREA = 2;

        static final int ARC_INPUT = 0;
        static final int ARC_OUTPUT = 1;
        static final int ARC_SENSE = 2;
        static final int ARC_RISE = 3;
        static final int ARC_FALL = 4;
        static final int ARC_PARTS = 5;

        private long name;
        private int place;
        private final long[] pins = new long[INPUT_ROOM + OUTPUT_ROOM];
        private int inputs;
        private int outputs;
        private final long[] truths = new long[OUTPUT_ROOM];
        private final int[] amounts = new int[3];
        private final boolean[] amountTold = new boolean[3];
        private final int[] powers = new int[STATE_ROOM];
        private boolean powerTold;
        private final int[] arcs = new int[ARC_ROOM * ARC_PARTS];
        private int arcCount;

        void begin(long newName, int newPlace) {
            name = newName;
            place = newPlace;
            inputs = 0;
            outputs = 0;
            arcCount = 0;
            powerTold = false;
            for (int i = 0; i < amounts.length; i++) {
                amounts[i] = 0;
                amountTold[i] = false;
            }
        }

        int states() {
            return 1 << inputs;
        }

        int inputNamed(long asked) {
            return Names.find(asked, pins, inputs);
        }

        int pinNamed(long asked) {
            return Names.find(asked, pins, inputs + outputs);
        }

        void addArc(int input, int output, int sense, int rise, int fall) {
            int row = arcCount * ARC_PARTS;
            arcs[row + ARC_INPUT] = input;
            arcs[row + ARC_OUTPUT] = output;
            arcs[row + ARC_SENSE] = sense;
            arcs[row + ARC_RISE] = rise;
            arcs[row + ARC_FALL] = fall;
            arcCount++;
        }

        int arcPart(int k, int part) {
            return arcs[k * ARC_PARTS + part];
        }

        boolean hasArc(int input, int output) {
            for (int k = 0; k < arcCount; k++) {
                if (arcPart(k, ARC_INPUT) == input && arcPart(k, ARC_OUTPUT) == output) {
                    return true;
                }
            }
            return false;
        }

        boolean agrees(int k) {
            int told = arcPart(k, ARC_SENSE);
            int found = Functions.senseOf(truths[arcPart(k, ARC_OUTPUT)], arcPart(k, ARC_INPUT));
            return told == 0 || found == told || found == Functions.UNCHANGED;
        }

        int disagreeing() {
            int many = 0;
            for (int k = 0; k < arcCount; k++) {
                if (!agrees(k)) {
                    many++;
                }
            }
            return many;
        }

        boolean comesBefore(Cell other) {
            if (amounts[DRIVE] != other.amounts[DRIVE]) {
                return amounts[DRIVE] < other.amounts[DRIVE];
            }
            return name < other.name;
        }
    }

    /**
     * Looks for THE ORDER of two cells. Part 1 is a whole truth; input after input each part i falls
     * into 2 i, where the input is 0, and 2 i + 1, where it is 1. An order can only go on while all
     * parts of one cell have as many 1s as those of the other; in the end each part is one state.
     */
    private static final class Matcher {
        private final int[] standsFor = new int[INPUT_ROOM];
        private final long[] ownParts = new long[2 * STATE_ROOM];
        private final long[] otherParts = new long[2 * STATE_ROOM];
        private int inputs;

        boolean match(Cell own, Cell other) {
            if (own.inputs != other.inputs) {
                return false;
            }
            inputs = own.inputs;
            ownParts[1] = own.truths[0];
            otherParts[1] = other.truths[0];
            if (Long.bitCount(ownParts[1]) != Long.bitCount(otherParts[1])) {
                return false;
            }
            for (int k = 0; k < inputs; k++) {
                split(ownParts, k, k);
            }
            return placeFrom(0, 0);
        }

        /** Inputs of the other cell are tried from 0 up, so the first order found is the least. */
        private boolean placeFrom(int k, int used) {
            if (k >= inputs) {
                return true;
            }
            for (int p = 0; p < inputs; p++) {
                if ((used >> p & 1) == 0 && goesOnWith(k, p, used)) {
                    return true;
                }
            }
            return false;
        }

        private boolean goesOnWith(int k, int p, int used) {
            if (!fits(k, p)) {
                return false;
            }
            standsFor[k] = p;
            split(otherParts, k, p);
            return placeFrom(k + 1, used | 1 << p);
        }

        private boolean fits(int k, int p) {
            for (int i = 1 << k; i < 2 << k; i++) {
                long otherOnes = otherParts[i] & Functions.INPUTS[p];
                if (Long.bitCount(ownParts[2 * i + 1]) != Long.bitCount(otherOnes)) {
                    return false;
                }
            }
            return true;
        }

        private static void split(long[] parts, int k, int input) {
            for (int i = 1 << k; i < 2 << k; i++) {
                parts[2 * i] = parts[i] & ~Functions.INPUTS[input];
                parts[2 * i + 1] = parts[i] & Functions.INPUTS[input];
            }
        }
    }
}
