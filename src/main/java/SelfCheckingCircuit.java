/**
 * A workbench for self-checking combinational circuits: gates, stuck-at faults, output codes, and
 * the analysis of which faults are exposed by a word that is no code word.
 */
public final class SelfCheckingCircuit {
    public static final int INVALID_ARGUMENT = -101;
    public static final int NOT_POSSIBLE = -102;
    public static final int CAPACITY_EXCEEDED = -103;
    public static final int NOT_FOUND = -104;
    public static final int NO_FAULT = -1;
    public static final int AND = 0, OR = 1, XOR = 2, NAND = 3, NOR = 4, NOT = 5, INPUT = 6;
    public static final int ALL_WORDS = 0, TWO_RAIL = 1, CONSTANT_WEIGHT = 2, BERGER = 3;
    public static final int NO_ERROR = 0, RISING = 1, FALLING = 2, MIXED = 3;
    public static final int BAD_STATEMENT = 1, BAD_NUMBER = 2, OUT_OF_RANGE = 3, TOO_MANY = 4;

    private static final int MAX_INPUTS = 6;
    private static final int MAX_GATES = 24;
    private static final int MAX_NODES = MAX_INPUTS + MAX_GATES;
    private static final int MAX_OUTPUTS = 6;
    private static final int MAX_WEIGHT = 6;
    private static final int MAX_TEXT = 200;
    private static final int MAX_EDITS = 5;
    private static final int TWO_RAIL_GATES = 6;
    private static final int COMPARATOR_GATES = 2;
    private static final int FIRST_CHARACTER = 32;
    private static final int LAST_CHARACTER = 126;

    /** 6 inputs have 64 words, and 6 outputs have 64 words: a set of either kind fits in a long. */
    private static final int MAX_WORDS = 64;
    private static final long EVERY_WORD = -1L;

    private static final String FIRST_TEXT =
            "i4;g0,0,2;g0,1,3;g1,4,5;g0,0,3;g0,1,2;g1,7,8;o6;o9;w5;w6;w9;w10;";

    private final CircuitText text = new CircuitText();
    private final TextReader reader = new TextReader(text);
    private final Circuit circuit = new Circuit();
    private final History history = new History();
    private final Analysis analysis = new Analysis(circuit);

    public SelfCheckingCircuit() {
        circuit.code = TWO_RAIL;
        for (int k = 0; k < FIRST_TEXT.length(); k++) {
            text.put(FIRST_TEXT.charAt(k));
        }
        takeText();
        text.length = 0;
    }

    public int append(int character) {
        if (character < FIRST_CHARACTER || character > LAST_CHARACTER) {
            return INVALID_ARGUMENT;
        }
        if (text.length >= MAX_TEXT) {
            return CAPACITY_EXCEEDED;
        }
        text.put((char) character);
        return text.length;
    }

    public int clearText() {
        int length = text.length;
        text.length = 0;
        return length;
    }

    public int firstError() {
        reader.read();
        return reader.errorStart;
    }

    public int errorReason() {
        reader.read();
        return reader.reason;
    }

    public int configure() {
        return takeText();
    }

    public int addGate(int type, int first, int second) {
        if (type < AND || type > NOT || !circuit.hasNode(first)) {
            return INVALID_ARGUMENT;
        }
        if (type != NOT && !circuit.hasNode(second)) {
            return INVALID_ARGUMENT;
        }
        if (!circuit.hasRoomFor(1)) {
            return CAPACITY_EXCEEDED;
        }
        history.save(circuit);
        return circuit.putGate(type, first, second);
    }

    public int addTwoRailCell(int a, int b, int c, int d) {
        if (!circuit.hasNode(a) || !circuit.hasNode(b)
                || !circuit.hasNode(c) || !circuit.hasNode(d)) {
            return INVALID_ARGUMENT;
        }
        if (!circuit.hasRoomFor(TWO_RAIL_GATES)) {
            return CAPACITY_EXCEEDED;
        }
        history.save(circuit);
        int p = circuit.putGate(AND, a, c);
        int q = circuit.putGate(AND, b, d);
        circuit.putGate(OR, p, q);
        int s = circuit.putGate(AND, a, d);
        int t = circuit.putGate(AND, b, c);
        return circuit.putGate(OR, s, t);
    }

    public int addComparator(int a, int b) {
        if (!circuit.hasNode(a) || !circuit.hasNode(b)) {
            return INVALID_ARGUMENT;
        }
        if (!circuit.hasRoomFor(COMPARATOR_GATES)) {
            return CAPACITY_EXCEEDED;
        }
        history.save(circuit);
        circuit.putGate(OR, a, b);
        return circuit.putGate(AND, a, b);
    }

    public int removeGate() {
        if (circuit.gates() == 0) {
            return NOT_FOUND;
        }
        int last = circuit.nodes - 1;
        if (circuit.isOutput(last)) {
            return NOT_POSSIBLE;
        }
        history.save(circuit);
        circuit.nodes = last;
        return circuit.type(last);
    }

    public int addOutput(int node) {
        if (!circuit.hasNode(node)) {
            return INVALID_ARGUMENT;
        }
        if (circuit.outputs >= MAX_OUTPUTS) {
            return CAPACITY_EXCEEDED;
        }
        history.save(circuit);
        circuit.putOutput(node);
        return circuit.outputs;
    }

    public int clearOutputs() {
        int outputs = circuit.outputs;
        history.save(circuit);
        circuit.outputs = 0;
        return outputs;
    }

    public int setNormal(int word, int normal) {
        if (!circuit.hasWord(word) || normal < 0 || normal > 1) {
            return INVALID_ARGUMENT;
        }
        history.save(circuit);
        if (normal == 1) {
            circuit.normal |= 1L << word;
        } else {
            circuit.normal &= ~(1L << word);
        }
        return Long.bitCount(circuit.normal);
    }

    public int setCode(int code, int weight) {
        if (code < ALL_WORDS || code > BERGER || weight < 0 || weight > MAX_WEIGHT) {
            return INVALID_ARGUMENT;
        }
        int previous = circuit.code;
        history.save(circuit);
        circuit.code = code;
        circuit.weight = weight;
        return previous;
    }

    public int undo() {
        if (history.count == 0) {
            return NOT_POSSIBLE;
        }
        history.restore(circuit);
        return history.count;
    }

    public int nodeCount() {
        return circuit.nodes;
    }

    public int typeOf(int node) {
        return circuit.hasNode(node) ? circuit.type(node) : INVALID_ARGUMENT;
    }

    public int operandOf(int node, int index) {
        if (!circuit.hasNode(node) || index < 0 || index > 1) {
            return INVALID_ARGUMENT;
        }
        if (index >= operandsOfType(circuit.type(node))) {
            return NOT_FOUND;
        }
        return index == 0 ? circuit.first(node) : circuit.second(node);
    }

    public int outputNode(int output) {
        if (output < 0 || output >= circuit.outputs) {
            return INVALID_ARGUMENT;
        }
        return circuit.nodeOfOutput(output);
    }

    public int isNormal(int word) {
        if (!circuit.hasWord(word)) {
            return INVALID_ARGUMENT;
        }
        return bit(circuit.normal, word);
    }

    public int outputWord(int word, int fault) {
        if (!circuit.hasWord(word) || (fault != NO_FAULT && !circuit.hasFault(fault))) {
            return INVALID_ARGUMENT;
        }
        return analysis.wordOut(word, fault);
    }

    public int isCodeWord(int outputWord) {
        if (outputWord < 0 || outputWord >= 1 << circuit.outputs) {
            return INVALID_ARGUMENT;
        }
        return analysis.isInCode(outputWord) ? 1 : 0;
    }

    public int errorKind(int word, int fault) {
        if (!circuit.hasWord(word) || !circuit.hasFault(fault)) {
            return INVALID_ARGUMENT;
        }
        int right = analysis.wordOut(word, NO_FAULT);
        int wrong = analysis.wordOut(word, fault);
        // The bits of RISING and FALLING together are MIXED.
        int kind = NO_ERROR;
        if ((wrong & ~right) != 0) {
            kind |= RISING;
        }
        if ((right & ~wrong) != 0) {
            kind |= FALLING;
        }
        return kind;
    }

    public int firstTest(int fault) {
        if (!circuit.hasFault(fault)) {
            return INVALID_ARGUMENT;
        }
        return least(analysis.exposing(fault));
    }

    public int firstUnsafe(int fault) {
        if (!circuit.hasFault(fault)) {
            return INVALID_ARGUMENT;
        }
        return least(analysis.unsafe(fault));
    }

    public int testableFaults() {
        int count = 0;
        for (int fault = 0; fault < circuit.faults(); fault++) {
            if (analysis.exposing(fault) != 0) {
                count++;
            }
        }
        return count;
    }

    public int secureFaults() {
        int count = 0;
        for (int fault = 0; fault < circuit.faults(); fault++) {
            if (analysis.unsafe(fault) == 0) {
                count++;
            }
        }
        return count;
    }

    public int isCodeDisjoint() {
        return analysis.isDisjoint() ? 1 : 0;
    }

    public int isUnordered() {
        return hasCover(analysis.normalOutputs()) ? 0 : 1;
    }

    public int greedyTest(int index) {
        if (index < 0) {
            return INVALID_ARGUMENT;
        }
        return analysis.greedyWord(index);
    }

    /** Makes the circuit that the text tells; the output code and its weight stay. */
    private int takeText() {
        reader.read();
        if (text.length == 0 || reader.reason != NOT_FOUND) {
            return NOT_POSSIBLE;
        }
        Circuit draft = reader.draft;
        draft.code = circuit.code;
        draft.weight = circuit.weight;
        circuit.copyFrom(draft);
        history.count = 0;
        return circuit.nodes;
    }

    private static int operandsOfType(int type) {
        if (type == INPUT) {
            return 0;
        }
        return type == NOT ? 1 : 2;
    }

    private static int bit(long set, int member) {
        return (int) (set >>> member) & 1;
    }

    private static int least(long set) {
        for (int member = 0; member < MAX_WORDS; member++) {
            if (bit(set, member) == 1) {
                return member;
            }
        }
        return NOT_FOUND;
    }

    /** Whether a word of the set covers a different one of the set. */
    private static boolean hasCover(long set) {
        for (int upper = 0; upper < MAX_WORDS; upper++) {
            if (bit(set, upper) == 1 && coversOther(upper, set)) {
                return true;
            }
        }
        return false;
    }

    private static boolean coversOther(int upper, long set) {
        // A word that is covered by a different one is a lesser number.
        for (int lower = 0; lower < upper; lower++) {
            if (bit(set, lower) == 1 && (lower & ~upper) == 0) {
                return true;
            }
        }
        return false;
    }

    /** All that undo brings back: nodes, outputs, normal words and the output code. */
    private static final class Circuit {
        private final int[] types = new int[MAX_NODES];
        private final int[] firsts = new int[MAX_NODES];
        private final int[] seconds = new int[MAX_NODES];
        private final int[] outputNodes = new int[MAX_OUTPUTS];
        private int inputs;
        private int nodes;
        private int outputs;
        private long normal;
        private int code;
        private int weight;

        private void copyFrom(Circuit other) {
            System.arraycopy(other.types, 0, types, 0, MAX_NODES);
            System.arraycopy(other.firsts, 0, firsts, 0, MAX_NODES);
            System.arraycopy(other.seconds, 0, seconds, 0, MAX_NODES);
            System.arraycopy(other.outputNodes, 0, outputNodes, 0, MAX_OUTPUTS);
            inputs = other.inputs;
            nodes = other.nodes;
            outputs = other.outputs;
            normal = other.normal;
            code = other.code;
            weight = other.weight;
        }

        /** Begins anew, with inputs alone and no normal word. */
        private void begin(int inputCount) {
            inputs = inputCount;
            nodes = inputCount;
            outputs = 0;
            normal = 0;
            for (int node = 0; node < inputCount && node < MAX_NODES; node++) {
                types[node] = INPUT;
            }
        }

        private int gates() {
            return nodes - inputs;
        }

        private int faults() {
            return 2 * nodes;
        }

        private long words() {
            return EVERY_WORD >>> (MAX_WORDS - (1 << inputs));
        }

        private boolean hasNode(int node) {
            return node >= 0 && node < nodes;
        }

        private boolean hasFault(int fault) {
            return fault >= 0 && fault < faults();
        }

        private boolean hasWord(int word) {
            return word >= 0 && word < 1 << inputs;
        }

        private boolean hasRoomFor(int moreGates) {
            return gates() + moreGates <= MAX_GATES;
        }

        private boolean isOutput(int node) {
            for (int output = 0; output < outputs; output++) {
                if (nodeOfOutput(output) == node) {
                    return true;
                }
            }
            return false;
        }

        private int putGate(int type, int first, int second) {
            int node = nodes;
            if (node < 0 || node >= MAX_NODES) {
                return CAPACITY_EXCEEDED;
            }
            types[node] = type;
            firsts[node] = first;
            // NOT takes any second number, which must not stay as if it were a node.
            seconds[node] = type == NOT ? first : second;
            nodes = node + 1;
            return node;
        }

        private void putOutput(int node) {
            if (outputs >= 0 && outputs < MAX_OUTPUTS) {
                outputNodes[outputs] = node;
                outputs++;
            }
        }

        private int type(int node) {
            return node >= 0 && node < MAX_NODES ? types[node] : INVALID_ARGUMENT;
        }

        private int first(int node) {
            return node >= 0 && node < MAX_NODES ? firsts[node] : INVALID_ARGUMENT;
        }

        private int second(int node) {
            return node >= 0 && node < MAX_NODES ? seconds[node] : INVALID_ARGUMENT;
        }

        private int nodeOfOutput(int output) {
            return output >= 0 && output < MAX_OUTPUTS ? outputNodes[output] : INVALID_ARGUMENT;
        }
    }

    /** The circuits as they were before the newest edits, in a ring that is made once. */
    private static final class History {
        private final Circuit[] saved = new Circuit[MAX_EDITS];
        private int next;
        private int count;

        private History() {
            for (int k = 0; k < MAX_EDITS; k++) {
                saved[k] = new Circuit();
            }
        }

        /** Keeps the circuit as it is before an edit; a sixth one takes the place of the oldest. */
        private void save(Circuit circuit) {
            Circuit slot = slot();
            if (slot != null) {
                slot.copyFrom(circuit);
            }
            next = next + 1 < MAX_EDITS ? next + 1 : 0;
            count = Math.min(count + 1, MAX_EDITS);
        }

        private void restore(Circuit circuit) {
            next = next > 0 ? next - 1 : MAX_EDITS - 1;
            count = Math.max(count - 1, 0);
            Circuit slot = slot();
            if (slot != null) {
                circuit.copyFrom(slot);
            }
        }

        private Circuit slot() {
            return next >= 0 && next < MAX_EDITS ? saved[next] : null;
        }
    }

    private static final class CircuitText {
        private final char[] characters = new char[MAX_TEXT];
        private int length;

        private void put(char character) {
            if (length >= 0 && length < MAX_TEXT) {
                characters[length] = character;
                length++;
            }
        }

        /** The character at an index, or the sign 0, which no text has, behind the end. */
        private char at(int index) {
            if (index < 0 || index >= length || index >= MAX_TEXT) {
                return (char) 0;
            }
            return characters[index];
        }
    }

    /** Reads the circuit text into a draft, up to the first malformed statement. */
    private static final class TextReader {
        private static final int MAX_NUMBERS = 3;
        private static final int WELL_FORMED = 0;
        private static final int NO_NUMBER = -1;

        private final CircuitText text;
        private final Circuit draft = new Circuit();
        private final int[] numbers = new int[MAX_NUMBERS];
        private int count;
        private int position;
        private int errorStart;
        private int reason;

        private TextReader(CircuitText text) {
            this.text = text;
        }

        private void read() {
            errorStart = NOT_FOUND;
            reason = NOT_FOUND;
            position = 0;
            // A statement takes a character or more, so there are no more of them than characters.
            for (int k = 0; k < MAX_TEXT && position < text.length; k++) {
                int start = position;
                int found = readStatement();
                if (found != WELL_FORMED) {
                    errorStart = start;
                    reason = found;
                    return;
                }
            }
            if (draft.normal == 0) {
                draft.normal = draft.words();
            }
        }

        private int readStatement() {
            boolean isFirst = position == 0;
            char letter = text.at(position);
            position++;
            if (!mayBegin(letter, isFirst)) {
                return BAD_STATEMENT;
            }
            int fewest = letter == 'g' ? 2 : 1;
            int most = letter == 'g' ? 3 : 1;
            if (!readNumbers(most) || count < fewest) {
                return BAD_NUMBER;
            }
            if (letter == 'i') {
                return takeInputs(numbers[0]);
            }
            if (letter == 'g') {
                return takeGate(numbers[0], numbers[1], numbers[2]);
            }
            return letter == 'o' ? takeOutput(numbers[0]) : takeNormal(numbers[0]);
        }

        private static boolean mayBegin(char letter, boolean isFirst) {
            if (isFirst) {
                return letter == 'i';
            }
            return letter == 'g' || letter == 'o' || letter == 'w';
        }

        /** Reads numbers with commas between them and the semicolon behind them. */
        private boolean readNumbers(int most) {
            count = 0;
            for (int k = 0; k < most && k < MAX_NUMBERS; k++) {
                int number = readNumber();
                if (number == NO_NUMBER) {
                    return false;
                }
                numbers[k] = number;
                count++;
                char separator = text.at(position);
                position++;
                if (separator != ',') {
                    return separator == ';';
                }
            }
            return false;
        }

        /** Reads one or two digits; a third one is then no comma and no semicolon. */
        private int readNumber() {
            if (!isDigit(text.at(position))) {
                return NO_NUMBER;
            }
            int number = text.at(position) - '0';
            position++;
            if (isDigit(text.at(position))) {
                number = 10 * number + text.at(position) - '0';
                position++;
            }
            return number;
        }

        private static boolean isDigit(char character) {
            return character >= '0' && character <= '9';
        }

        private int takeInputs(int inputs) {
            if (inputs < 1 || inputs > MAX_INPUTS) {
                return OUT_OF_RANGE;
            }
            draft.begin(inputs);
            return WELL_FORMED;
        }

        private int takeGate(int type, int first, int second) {
            int operands = count - 1;
            if (type > NOT || operandsOfType(type) != operands || !draft.hasNode(first)) {
                return OUT_OF_RANGE;
            }
            if (operands == 2 && !draft.hasNode(second)) {
                return OUT_OF_RANGE;
            }
            if (!draft.hasRoomFor(1)) {
                return TOO_MANY;
            }
            draft.putGate(type, first, second);
            return WELL_FORMED;
        }

        private int takeOutput(int node) {
            if (!draft.hasNode(node)) {
                return OUT_OF_RANGE;
            }
            if (draft.outputs >= MAX_OUTPUTS) {
                return TOO_MANY;
            }
            draft.putOutput(node);
            return WELL_FORMED;
        }

        private int takeNormal(int word) {
            if (!draft.hasWord(word)) {
                return OUT_OF_RANGE;
            }
            draft.normal |= 1L << word;
            return WELL_FORMED;
        }
    }

    /**
     * Answers about one circuit and its faults. A column is a long whose bit w is a value under the
     * input word w, so that one pass over the gates serves all input words at once.
     */
    private static final class Analysis {
        private static final long[] INPUT_COLUMNS = {
            0xAAAAAAAAAAAAAAAAL, 0xCCCCCCCCCCCCCCCCL, 0xF0F0F0F0F0F0F0F0L,
            0xFF00FF00FF00FF00L, 0xFFFF0000FFFF0000L, 0xFFFFFFFF00000000L
        };
        /** A number of at most 6 ones or zeros has 3 binary digits. */
        private static final int TALLY_DIGITS = 3;

        private final Circuit circuit;
        private final long[] nodeColumns = new long[MAX_NODES];
        private final long[] outputColumns = new long[MAX_OUTPUTS];
        private final long[] rightColumns = new long[MAX_OUTPUTS];
        private final long[] tally = new long[TALLY_DIGITS];
        private final long[] exposedFaults = new long[MAX_WORDS];

        private Analysis(Circuit circuit) {
            this.circuit = circuit;
        }

        private int wordOut(int word, int fault) {
            simulate(fault);
            return wordInColumns(word);
        }

        private boolean isInCode(int outputWord) {
            for (int k = 0; k < MAX_OUTPUTS; k++) {
                outputColumns[k] = columnOfBit(outputWord, k);
            }
            return inCode() != 0;
        }

        /** Whether the normal words, and no others, have code words as output words. */
        private boolean isDisjoint() {
            simulate(NO_FAULT);
            return (inCode() & circuit.words()) == circuit.normal;
        }

        /** The normal words that expose the fault. */
        private long exposing(int fault) {
            simulate(fault);
            return circuit.normal & ~inCode();
        }

        /** The normal words that are unsafe for the fault. */
        private long unsafe(int fault) {
            simulate(NO_FAULT);
            System.arraycopy(outputColumns, 0, rightColumns, 0, MAX_OUTPUTS);
            simulate(fault);
            long different = 0;
            for (int k = 0; k < circuit.outputs && k < MAX_OUTPUTS; k++) {
                different |= outputColumns[k] ^ rightColumns[k];
            }
            return circuit.normal & different & inCode();
        }

        /** The set of the output words, without a fault, of all normal words. */
        private long normalOutputs() {
            simulate(NO_FAULT);
            long set = 0;
            for (int word = 0; word < MAX_WORDS; word++) {
                if (bit(circuit.normal, word) == 1) {
                    set |= 1L << wordInColumns(word);
                }
            }
            return set;
        }

        private int greedyWord(int index) {
            long open = collectExposed();
            // Each chosen word exposes a fault more, so there are at most as many as faults.
            for (int k = 0; k < circuit.faults() && open != 0; k++) {
                int word = bestWord(open);
                if (k == index || word < 0 || word >= MAX_WORDS) {
                    return word;
                }
                open &= ~exposedFaults[word];
            }
            return NOT_FOUND;
        }

        /** Fills in the faults that each word exposes; answers the set of all testable faults. */
        private long collectExposed() {
            for (int word = 0; word < MAX_WORDS; word++) {
                exposedFaults[word] = 0;
            }
            long testable = 0;
            for (int fault = 0; fault < circuit.faults(); fault++) {
                long words = exposing(fault);
                if (words != 0) {
                    testable |= 1L << fault;
                    addExposed(fault, words);
                }
            }
            return testable;
        }

        private void addExposed(int fault, long words) {
            for (int word = 0; word < MAX_WORDS; word++) {
                if (bit(words, word) == 1) {
                    exposedFaults[word] |= 1L << fault;
                }
            }
        }

        /** The least word of those that expose the most of the open faults. */
        private int bestWord(long open) {
            int best = NOT_FOUND;
            int most = 0;
            for (int word = 0; word < MAX_WORDS; word++) {
                int exposed = Long.bitCount(exposedFaults[word] & open);
                if (exposed > most) {
                    most = exposed;
                    best = word;
                }
            }
            return best;
        }

        /** Puts the columns of all outputs under the fault, or NO_FAULT, into outputColumns. */
        private void simulate(int fault) {
            int faultyNode = fault >> 1;
            for (int node = 0; node < circuit.nodes && node < MAX_NODES; node++) {
                nodeColumns[node] = node == faultyNode ? columnOfBit(fault, 0) : soundColumn(node);
            }
            for (int k = 0; k < circuit.outputs && k < MAX_OUTPUTS; k++) {
                outputColumns[k] = columnOf(circuit.nodeOfOutput(k));
            }
        }

        /** The column of a node without a fault of its own, when those before it have theirs. */
        private long soundColumn(int node) {
            if (node >= 0 && node < circuit.inputs && node < MAX_INPUTS) {
                return INPUT_COLUMNS[node];
            }
            long first = columnOf(circuit.first(node));
            long second = columnOf(circuit.second(node));
            switch (circuit.type(node)) {
                case AND:
                    return first & second;
                case OR:
                    return first | second;
                case XOR:
                    return first ^ second;
                case NAND:
                    return ~(first & second);
                case NOR:
                    return ~(first | second);
                default:
                    return ~first;
            }
        }

        private long columnOf(int node) {
            return node >= 0 && node < MAX_NODES ? nodeColumns[node] : 0;
        }

        /** The column with the same value, a bit of the number, under every word. */
        private static long columnOfBit(int number, int index) {
            return -(number >> index & 1L);
        }

        private int wordInColumns(int word) {
            int outputWord = 0;
            for (int k = 0; k < circuit.outputs && k < MAX_OUTPUTS; k++) {
                outputWord |= bit(outputColumns[k], word) << k;
            }
            return outputWord;
        }

        /** The words under which the output columns hold a code word. */
        private long inCode() {
            switch (circuit.code) {
                case TWO_RAIL:
                    return inTwoRail(circuit.outputs);
                case CONSTANT_WEIGHT:
                    return inConstantWeight(circuit.outputs, circuit.weight);
                case BERGER:
                    return inBerger(circuit.outputs, circuit.weight);
                default:
                    return EVERY_WORD;
            }
        }

        private long inTwoRail(int outputs) {
            if ((outputs & 1) == 1) {
                return 0;
            }
            long words = EVERY_WORD;
            for (int k = 0; k + 1 < outputs && k + 1 < MAX_OUTPUTS; k += 2) {
                words &= outputColumns[k] ^ outputColumns[k + 1];
            }
            return words;
        }

        private long inConstantWeight(int outputs, int weight) {
            clearTally();
            for (int k = 0; k < outputs && k < MAX_OUTPUTS; k++) {
                addToTally(outputColumns[k]);
            }
            long words = EVERY_WORD;
            for (int digit = 0; digit < TALLY_DIGITS; digit++) {
                words &= ~(tally[digit] ^ columnOfBit(weight, digit));
            }
            return words;
        }

        private long inBerger(int outputs, int weight) {
            if (weight > outputs) {
                return 0;
            }
            clearTally();
            for (int k = 0; k < weight && k < MAX_OUTPUTS; k++) {
                addToTally(~outputColumns[k]);
            }
            long words = EVERY_WORD;
            for (int digit = 0; digit < MAX_OUTPUTS; digit++) {
                long zeros = digit < TALLY_DIGITS ? tally[digit] : 0;
                words &= ~(zeros ^ toldDigit(weight + digit, outputs));
            }
            return words;
        }

        /** A digit of the number that the outputs from the weight on tell; 0 behind the last. */
        private long toldDigit(int output, int outputs) {
            if (output < 0 || output >= outputs || output >= MAX_OUTPUTS) {
                return 0;
            }
            return outputColumns[output];
        }

        private void clearTally() {
            for (int digit = 0; digit < TALLY_DIGITS; digit++) {
                tally[digit] = 0;
            }
        }

        /** Counts, under each word on its own, one more where the column has a 1. */
        private void addToTally(long column) {
            long carry = column;
            for (int digit = 0; digit < TALLY_DIGITS; digit++) {
                long before = tally[digit];
                tally[digit] = before ^ carry;
                carry &= before;
            }
        }
    }
}
