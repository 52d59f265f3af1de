/** The boundary cases of the promises 16 to 23: the circuit and its words. */
public final class LookBoundsTest {
    private static final Check CHECK = new Check();

    /** Inputs and gates of circuits from the least to the greatest. */
    private static final int[][] SIZES = {{1, 0}, {1, 1}, {6, 0}, {1, 24}, {6, 23}, {6, 24}};

    public static void main(String[] args) {
        nodeCount();
        typeOfEach();
        typeOfNode();
        operandOfNode();
        operandOfIndex();
        operandOfNone();
        operandOfOrder();
        outputNodeOfEach();
        outputNodeRange();
        isNormalAnswers();
        isNormalRange();
        outputWordWord();
        outputWordFault();
        outputWordBoth();
        isCodeWordRange();
        isCodeWordAnswers();
        errorKindWord();
        errorKindFault();
        errorKindBoth();
        CHECK.end();
    }

    private static void nodeCount() {
        CHECK.sentence("Promise 16: Returns the number of nodes.");
        for (int[] size : SIZES) {
            SelfCheckingCircuit x = CHECK.made(Check.sized(size[0], size[1], 0));
            int nodes = size[0] + size[1];
            CHECK.due("nodeCount()", x.nodeCount(), nodes);
            int more = x.addGate(5, 0, 0) == Check.FULL ? 0 : 1;
            CHECK.due("nodeCount() after addGate", x.nodeCount(), nodes + more);
            x.undo();
            CHECK.due("nodeCount() after undo", x.nodeCount(), nodes);
        }
    }

    private static void typeOfEach() {
        CHECK.sentence("Promise 17: Returns AND, OR, XOR, NAND, NOR, NOT or INPUT");
        SelfCheckingCircuit x = CHECK.made("i6;" + "g0,0,0;g1,0,0;g2,0,0;g3,0,0;g4,0,0;g5,0;".repeat(4));
        for (int node = 0; node < 30; node++) {
            CHECK.due("typeOf(" + node + ")", x.typeOf(node),
                    node < 6 ? SelfCheckingCircuit.INPUT : node % 6);
        }
    }

    private static void typeOfNode() {
        CHECK.sentence("Promise 17: number of an existing node; INVALID_ARGUMENT if there is no such node");
        for (int[] size : SIZES) {
            SelfCheckingCircuit x = CHECK.made(Check.sized(size[0], size[1], 0));
            CHECK.range("typeOf", x::typeOf, 0, size[0] + size[1] - 1);
        }
        SelfCheckingCircuit less = CHECK.made(Check.sized(6, 24, 0));
        less.removeGate();
        CHECK.range("typeOf after removeGate", less::typeOf, 0, 28);
        less.undo();
        CHECK.range("typeOf after undo", less::typeOf, 0, 29);
    }

    private static void operandOfNode() {
        CHECK.sentence("Promise 18: number of an existing node; INVALID_ARGUMENT if there is no such node");
        for (int[] size : SIZES) {
            SelfCheckingCircuit x = CHECK.made(Check.sized(size[0], size[1], 0));
            CHECK.range("operandOf(node, 0)", node -> x.operandOf(node, 0), 0, size[0] + size[1] - 1);
            CHECK.range("operandOf(node, 1)", node -> x.operandOf(node, 1), 0, size[0] + size[1] - 1);
        }
    }

    private static void operandOfIndex() {
        CHECK.sentence("Promise 18: 0 for the first, 1 for the second operand; INVALID_ARGUMENT if index is "
                + "out of range");
        SelfCheckingCircuit x = CHECK.made("i3;g0,1,2;g5,2;");
        CHECK.due("operandOf(3, 0)", x.operandOf(3, 0), 1);
        CHECK.due("operandOf(3, 1)", x.operandOf(3, 1), 2);
        for (int node = 0; node <= 4; node++) {
            int fixed = node;
            CHECK.range("operandOf(" + node + ", index)", index -> x.operandOf(fixed, index), 0, 1);
        }
    }

    private static void operandOfNone() {
        CHECK.sentence("Promise 18: NOT_FOUND if the node has no such operand");
        SelfCheckingCircuit x = CHECK.made("i2;g5,1;g0,0,1;");
        for (int node = 0; node < 2; node++) {
            CHECK.due("operandOf(" + node + ", 0) of an input", x.operandOf(node, 0), Check.NONE);
            CHECK.due("operandOf(" + node + ", 1) of an input", x.operandOf(node, 1), Check.NONE);
        }
        CHECK.due("operandOf(2, 0) of a NOT", x.operandOf(2, 0), 1);
        CHECK.due("operandOf(2, 1) of a NOT", x.operandOf(2, 1), Check.NONE);
        CHECK.due("operandOf(3, 0) of an AND", x.operandOf(3, 0), 0);
        CHECK.due("operandOf(3, 1) of an AND", x.operandOf(3, 1), 1);
        // A gate takes the place of a NOT, and a NOT the place of a gate.
        x.removeGate();
        x.addGate(5, 0, 1);
        CHECK.due("operandOf(3, 1) of a NOT in its place", x.operandOf(3, 1), Check.NONE);
        Check.put(x, "i4;").configure();
        CHECK.due("operandOf(3, 0) of an input in its place", x.operandOf(3, 0), Check.NONE);
    }

    private static void operandOfOrder() {
        CHECK.sentence("When several error codes apply to a call, the first one named (operandOf)");
        SelfCheckingCircuit x = CHECK.made("i1;g5,0;");
        CHECK.each("operandOf(0, index) of an input", index -> x.operandOf(0, index), Check.INVALID,
                Check.MIN, -1, 2, Check.MAX);
        CHECK.each("operandOf(1, index) of a NOT", index -> x.operandOf(1, index), Check.INVALID,
                Check.MIN, -1, 2, Check.MAX);
        CHECK.each("operandOf(2, index) of no node", index -> x.operandOf(2, index), Check.INVALID, -1, 0, 1, 2);
    }

    private static void outputNodeOfEach() {
        CHECK.sentence("Promise 19: Returns its node");
        SelfCheckingCircuit x = CHECK.made(Check.sized(6, 24, 0) + "o29;o0;o5;o6;o28;o29;");
        int[] nodes = {29, 0, 5, 6, 28, 29};
        for (int output = 0; output < 6; output++) {
            CHECK.due("outputNode(" + output + ")", x.outputNode(output), nodes[output]);
        }
    }

    private static void outputNodeRange() {
        CHECK.sentence("Promise 19: number of an existing output; INVALID_ARGUMENT if there is no such output");
        for (int outputs = 1; outputs <= 6; outputs++) {
            SelfCheckingCircuit x = CHECK.made(Check.sized(6, 24, outputs));
            CHECK.range("outputNode", x::outputNode, 0, outputs - 1);
        }
        SelfCheckingCircuit none = CHECK.made("i6;");
        CHECK.each("outputNode of none", none::outputNode, Check.INVALID, Check.MIN, -1, 0, 1, Check.MAX);
        SelfCheckingCircuit less = CHECK.made(Check.sized(1, 0, 6));
        less.clearOutputs();
        CHECK.each("outputNode after clearOutputs", less::outputNode, Check.INVALID, 0, 5, 6);
        less.undo();
        CHECK.range("outputNode after undo", less::outputNode, 0, 5);
    }

    private static void isNormalAnswers() {
        CHECK.sentence("Promise 20: Returns 1 if it is normal, else 0");
        for (int word = 0; word < 64; word++) {
            SelfCheckingCircuit x = CHECK.made("i6;w" + word + ";");
            for (int other = 0; other < 64; other++) {
                CHECK.due("isNormal(" + other + ")", x.isNormal(other), other == word ? 1 : 0);
            }
        }
    }

    private static void isNormalRange() {
        CHECK.sentence("Promise 20: an input word of the circuit; INVALID_ARGUMENT if there is no such word");
        for (int inputs = 1; inputs <= 6; inputs++) {
            SelfCheckingCircuit x = CHECK.made("i" + inputs + ";g5,0;");
            CHECK.range("isNormal", x::isNormal, 0, (1 << inputs) - 1);
            CHECK.each("isNormal", x::isNormal, Check.INVALID, 64, 65, 128, -64);
        }
    }

    private static void outputWordWord() {
        CHECK.sentence("Promise 21: word: an input word of the circuit");
        for (int inputs = 1; inputs <= 6; inputs++) {
            SelfCheckingCircuit x = CHECK.made("i" + inputs + ";o0;");
            int last = (1 << inputs) - 1;
            CHECK.range("outputWord(word, -1)", word -> x.outputWord(word, -1), 0, last);
            CHECK.range("outputWord(word, 0)", word -> x.outputWord(word, 0), 0, last);
            // Words that are not normal have output words too.
            x.setNormal(last, 0);
            CHECK.due("outputWord of the last", x.outputWord(last, -1), 1);
        }
    }

    private static void outputWordFault() {
        CHECK.sentence("Promise 21: fault: a fault of the circuit, or NO_FAULT");
        for (int[] size : SIZES) {
            SelfCheckingCircuit x = CHECK.made(Check.sized(size[0], size[1], 0));
            int nodes = size[0] + size[1];
            x.addOutput(nodes - 1);
            CHECK.range("outputWord(0, fault)", fault -> x.outputWord(0, fault),
                    SelfCheckingCircuit.NO_FAULT, 2 * nodes - 1);
            CHECK.due("last node at 0", x.outputWord(0, 2 * nodes - 2), 0);
            CHECK.due("last node at 1", x.outputWord(0, 2 * nodes - 1), 1);
        }
    }

    private static void outputWordBoth() {
        CHECK.sentence("Promise 21: Returns the output word; INVALID_ARGUMENT if an argument is out of range");
        SelfCheckingCircuit x = CHECK.made("i6;o0;o1;o2;o3;o4;o5;");
        CHECK.due("outputWord(0, -1)", x.outputWord(0, -1), 0);
        CHECK.due("outputWord(63, -1)", x.outputWord(63, -1), 63);
        CHECK.due("outputWord(63, 0)", x.outputWord(63, 0), 62);
        CHECK.due("outputWord(0, 11)", x.outputWord(0, 11), 32);
        CHECK.each("outputWord(64, fault)", fault -> x.outputWord(64, fault), Check.INVALID, -2, -1, 0, 11, 12);
        CHECK.each("outputWord(word, 12)", word -> x.outputWord(word, 12), Check.INVALID, -1, 0, 63, 64);
    }

    private static void isCodeWordRange() {
        CHECK.sentence("Promise 22: 0 to 2 to the power of the number of outputs, minus 1; INVALID_ARGUMENT "
                + "if outputWord is out of range");
        for (int outputs = 0; outputs <= 6; outputs++) {
            for (int code = 0; code <= 3; code++) {
                SelfCheckingCircuit x = CHECK.made(Check.sized(1, 0, outputs));
                x.setCode(code, 6);
                CHECK.range("isCodeWord", x::isCodeWord, 0, (1 << outputs) - 1);
                CHECK.each("isCodeWord", x::isCodeWord, Check.INVALID, 64, 65, 128, -64);
            }
        }
    }

    private static void isCodeWordAnswers() {
        CHECK.sentence("Promise 22: Returns 1 if it is a code word, else 0");
        SelfCheckingCircuit x = CHECK.made(Check.sized(1, 0, 6));
        x.setCode(SelfCheckingCircuit.CONSTANT_WEIGHT, 6);
        CHECK.due("isCodeWord(0)", x.isCodeWord(0), 0);
        CHECK.due("isCodeWord(63)", x.isCodeWord(63), 1);
        x.setCode(SelfCheckingCircuit.CONSTANT_WEIGHT, 0);
        CHECK.due("isCodeWord(0)", x.isCodeWord(0), 1);
        CHECK.due("isCodeWord(63)", x.isCodeWord(63), 0);
    }

    private static void errorKindWord() {
        CHECK.sentence("Promise 23: word: an input word of the circuit");
        for (int inputs = 1; inputs <= 6; inputs++) {
            SelfCheckingCircuit x = CHECK.made("i" + inputs + ";o0;");
            int last = (1 << inputs) - 1;
            CHECK.range("errorKind(word, 0)", word -> x.errorKind(word, 0), 0, last);
            // Words that are not normal have errors too.
            x.setNormal(last, 0);
            CHECK.due("errorKind of the last", x.errorKind(last, 0), SelfCheckingCircuit.FALLING);
        }
    }

    private static void errorKindFault() {
        CHECK.sentence("Promise 23: fault: a fault of the circuit");
        for (int[] size : SIZES) {
            SelfCheckingCircuit x = CHECK.made(Check.sized(size[0], size[1], 0));
            CHECK.range("errorKind(0, fault)", fault -> x.errorKind(0, fault), 0,
                    2 * (size[0] + size[1]) - 1);
        }
    }

    private static void errorKindBoth() {
        CHECK.sentence("Promise 23: INVALID_ARGUMENT if an argument is out of range");
        SelfCheckingCircuit x = CHECK.made("i6;o0;o1;o2;o3;o4;o5;");
        CHECK.due("errorKind(63, 11)", x.errorKind(63, 11), SelfCheckingCircuit.NO_ERROR);
        CHECK.due("errorKind(0, 11)", x.errorKind(0, 11), SelfCheckingCircuit.RISING);
        CHECK.each("errorKind(64, fault)", fault -> x.errorKind(64, fault), Check.INVALID, -1, 0, 11, 12);
        CHECK.each("errorKind(word, 12)", word -> x.errorKind(word, 12), Check.INVALID, -1, 0, 63, 64);
        CHECK.each("errorKind(word, NO_FAULT)", word -> x.errorKind(word, -1), Check.INVALID, -1, 0, 63, 64);
    }
}
