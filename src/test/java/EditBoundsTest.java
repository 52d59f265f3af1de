import java.util.ArrayDeque;
import java.util.Deque;
import java.util.LinkedHashMap;
import java.util.Map;
import java.util.function.Consumer;

/** The boundary cases of the edits and of undo, promises 7 to 15. */
public final class EditBoundsTest {
    private static final Check CHECK = new Check();

    public static void main(String[] args) {
        addGateType();
        addGateFirst();
        addGateSecond();
        addGateSecondOfNot();
        addGateAnswersTheNode();
        addGateFull();
        cellNodes();
        cellGates();
        cellAnswersNodeU();
        cellFull();
        comparatorNodes();
        comparatorGates();
        comparatorFull();
        removeGateAnswersTheType();
        removeGateOfNone();
        removeGateOfAnOutput();
        addOutputNode();
        addOutputBehindTheOthers();
        addOutputFull();
        clearOutputs();
        setNormalWord();
        setNormalFlag();
        setNormalAnswersTheCount();
        setCodeCode();
        setCodeWeight();
        setCodeAnswersThePrevious();
        undoAnswersTheRest();
        undoOfNone();
        everyEditIsOne();
        editsThatLeaveEverything();
        otherCallsAreNoEdits();
        newestFive();
        everyOrderOfEdits();
        afterConfigure();
        refusedConfigureKeepsEdits();
        textIsNotAffected();
        CHECK.end();
    }

    /** The least, the greatest and a middle circuit, with room for a cell; all gates are NOT 0. */
    private static final int[][] SIZES = {{1, 0}, {3, 4}, {6, 18}};

    private static void addGateType() {
        CHECK.sentence("Promise 7: type: AND, OR, XOR, NAND, NOR or NOT");
        SelfCheckingCircuit x = CHECK.made("i1;");
        CHECK.range("addGate(type, 0, 0)", type -> x.addGate(type, 0, 0), SelfCheckingCircuit.AND,
                SelfCheckingCircuit.NOT);
        CHECK.due("addGate(INPUT, 0, 0)", x.addGate(SelfCheckingCircuit.INPUT, 0, 0), Check.INVALID);
        CHECK.due("nodeCount()", x.nodeCount(), 3);
    }

    private static void addGateFirst() {
        CHECK.sentence("Promise 7: first: number of an existing node");
        for (int[] size : SIZES) {
            for (int type = SelfCheckingCircuit.AND; type <= SelfCheckingCircuit.NOT; type++) {
                int taken = type;
                int last = size[0] + size[1] - 1;
                CHECK.range("addGate(" + type + ", first, 0)",
                        first -> CHECK.made(Check.sized(size[0], size[1], 0)).addGate(taken, first, 0),
                        0, last);
            }
        }
    }

    private static void addGateSecond() {
        CHECK.sentence("Promise 7: second: number of an existing node");
        for (int[] size : SIZES) {
            for (int type = SelfCheckingCircuit.AND; type <= SelfCheckingCircuit.NOR; type++) {
                int taken = type;
                int last = size[0] + size[1] - 1;
                CHECK.range("addGate(" + type + ", 0, second)",
                        second -> CHECK.made(Check.sized(size[0], size[1], 0)).addGate(taken, 0, second),
                        0, last);
            }
        }
    }

    private static void addGateSecondOfNot() {
        CHECK.sentence("Promise 7: any number if type is NOT");
        int[] any = {Check.MIN, -104, -2, -1, 0, 1, 2, 3, 30, 31, Check.MAX};
        for (int second : any) {
            SelfCheckingCircuit x = CHECK.made("i2;");
            CHECK.due("addGate(NOT, 1, " + second + ")", x.addGate(5, 1, second), 2);
            CHECK.due("operandOf(2, 0)", x.operandOf(2, 0), 1);
            CHECK.due("operandOf(2, 1)", x.operandOf(2, 1), Check.NONE);
            x.addOutput(2);
            CHECK.due("outputWord(0, -1)", x.outputWord(0, -1), 1);
            CHECK.due("outputWord(2, -1)", x.outputWord(2, -1), 0);
            CHECK.due("first still counts", x.addGate(5, 3, second), Check.INVALID);
        }
    }

    private static void addGateAnswersTheNode() {
        CHECK.sentence("Promise 7: Returns the number of the new node");
        for (int inputs = 1; inputs <= 6; inputs++) {
            SelfCheckingCircuit x = CHECK.made("i" + inputs + ";");
            for (int gate = 0; gate < 24; gate++) {
                CHECK.due("addGate", x.addGate(gate % 6, inputs + gate - 1, 0), inputs + gate);
                CHECK.due("typeOf", x.typeOf(inputs + gate), gate % 6);
                CHECK.due("operandOf", x.operandOf(inputs + gate, 0), inputs + gate - 1);
            }
        }
    }

    private static void addGateFull() {
        CHECK.sentence("Promise 7: INVALID_ARGUMENT; CAPACITY_EXCEEDED if there are already 24 gates");
        SelfCheckingCircuit x = CHECK.made(Check.sized(1, 23, 0));
        CHECK.due("addGate, the 24th", x.addGate(0, 23, 23), 24);
        CHECK.each("addGate(type, 24, 0)", type -> x.addGate(type, 24, 0), Check.FULL, 0, 1, 2, 3, 4, 5);
        CHECK.each("addGate(type, 0, 0)", type -> x.addGate(type, 0, 0), Check.INVALID, -1, 6);
        CHECK.each("addGate(0, first, 0)", node -> x.addGate(0, node, 0), Check.INVALID, -1, 25);
        CHECK.each("addGate(5, first, 0)", node -> x.addGate(5, node, 0), Check.INVALID, -1, 25);
        CHECK.each("addGate(0, 0, second)", node -> x.addGate(0, 0, node), Check.INVALID, -1, 25);
        CHECK.each("addGate(5, 0, second)", node -> x.addGate(5, 0, node), Check.FULL, -1, 25);
        x.removeGate();
        CHECK.due("addGate when there is room again", x.addGate(5, 0, 0), 24);
    }

    private static void cellNodes() {
        CHECK.sentence("Promise 8: a, b, c, d: number of an existing node; INVALID_ARGUMENT if there is no "
                + "such node");
        for (int[] size : SIZES) {
            String text = Check.sized(size[0], size[1], 0);
            int last = size[0] + size[1] - 1;
            CHECK.range("cell(a, 0, 0, 0)", a -> CHECK.made(text).addTwoRailCell(a, 0, 0, 0), 0, last);
            CHECK.range("cell(0, b, 0, 0)", b -> CHECK.made(text).addTwoRailCell(0, b, 0, 0), 0, last);
            CHECK.range("cell(0, 0, c, 0)", c -> CHECK.made(text).addTwoRailCell(0, 0, c, 0), 0, last);
            CHECK.range("cell(0, 0, 0, d)", d -> CHECK.made(text).addTwoRailCell(0, 0, 0, d), 0, last);
        }
    }

    private static void gate(SelfCheckingCircuit x, int node, int type, int first, int second) {
        CHECK.due("typeOf(" + node + ")", x.typeOf(node), type);
        CHECK.due("operandOf(" + node + ", 0)", x.operandOf(node, 0), first);
        CHECK.due("operandOf(" + node + ", 1)", x.operandOf(node, 1), second);
    }

    private static void cellGates() {
        CHECK.sentence("Promise 8: the six gates p = a AND c, q = b AND d, r = p OR q, s = a AND d, "
                + "t = b AND c, u = s OR t, in this order");
        SelfCheckingCircuit x = CHECK.made("i6;" + "g5,0;".repeat(18));
        x.addTwoRailCell(23, 0, 5, 6);
        gate(x, 24, SelfCheckingCircuit.AND, 23, 5);
        gate(x, 25, SelfCheckingCircuit.AND, 0, 6);
        gate(x, 26, SelfCheckingCircuit.OR, 24, 25);
        gate(x, 27, SelfCheckingCircuit.AND, 23, 6);
        gate(x, 28, SelfCheckingCircuit.AND, 0, 5);
        gate(x, 29, SelfCheckingCircuit.OR, 27, 28);
    }

    private static void cellAnswersNodeU() {
        CHECK.sentence("Promise 8: Returns the number of node u (node r has the number that is less by 3)");
        for (int inputs = 1; inputs <= 6; inputs++) {
            SelfCheckingCircuit x = CHECK.made("i" + inputs + ";");
            for (int cell = 1; cell <= 4; cell++) {
                int u = x.addTwoRailCell(0, 0, inputs - 1, inputs - 1);
                CHECK.due("addTwoRailCell", u, inputs + 6 * cell - 1);
                gate(x, u, SelfCheckingCircuit.OR, u - 2, u - 1);
                gate(x, u - 3, SelfCheckingCircuit.OR, u - 5, u - 4);
                CHECK.due("nodeCount()", x.nodeCount(), u + 1);
            }
        }
    }

    private static void cellFull() {
        CHECK.sentence("Promise 8: INVALID_ARGUMENT; CAPACITY_EXCEEDED if there would be more than 24 gates");
        CHECK.due("with 18", CHECK.made(Check.sized(1, 18, 0)).addTwoRailCell(0, 0, 0, 18), 24);
        for (int gates = 19; gates <= 24; gates++) {
            SelfCheckingCircuit x = CHECK.made(Check.sized(1, gates, 0));
            int behind = gates + 1;
            CHECK.due("with " + gates, x.addTwoRailCell(gates, gates, gates, gates), Check.FULL);
            CHECK.each("a", a -> x.addTwoRailCell(a, 0, 0, 0), Check.INVALID, -1, behind);
            CHECK.each("b", b -> x.addTwoRailCell(0, b, 0, 0), Check.INVALID, -1, behind);
            CHECK.each("c", c -> x.addTwoRailCell(0, 0, c, 0), Check.INVALID, -1, behind);
            CHECK.each("d", d -> x.addTwoRailCell(0, 0, 0, d), Check.INVALID, -1, behind);
            CHECK.due("nodeCount()", x.nodeCount(), behind);
        }
    }

    private static void comparatorNodes() {
        CHECK.sentence("Promise 9: a, b: number of an existing node; INVALID_ARGUMENT if there is no such "
                + "node");
        for (int[] size : SIZES) {
            String text = Check.sized(size[0], size[1], 0);
            int last = size[0] + size[1] - 1;
            CHECK.range("addComparator(a, 0)", a -> CHECK.made(text).addComparator(a, 0), 0, last);
            CHECK.range("addComparator(0, b)", b -> CHECK.made(text).addComparator(0, b), 0, last);
        }
    }

    private static void comparatorGates() {
        CHECK.sentence("Promise 9: the two gates a OR b and a AND b, in this order; Returns the number of "
                + "the second gate");
        for (int inputs = 2; inputs <= 6; inputs++) {
            SelfCheckingCircuit x = CHECK.made("i" + inputs + ";");
            for (int node = inputs; node < inputs + 24; node += 2) {
                CHECK.due("addComparator", x.addComparator(node - 1, node - 2), node + 1);
                gate(x, node, SelfCheckingCircuit.OR, node - 1, node - 2);
                gate(x, node + 1, SelfCheckingCircuit.AND, node - 1, node - 2);
            }
        }
    }

    private static void comparatorFull() {
        CHECK.sentence("Promise 9: INVALID_ARGUMENT; CAPACITY_EXCEEDED if there would be more than 24 gates");
        CHECK.due("with 22", CHECK.made(Check.sized(1, 22, 0)).addComparator(22, 22), 24);
        for (int gates = 23; gates <= 24; gates++) {
            SelfCheckingCircuit x = CHECK.made(Check.sized(1, gates, 0));
            CHECK.due("with " + gates, x.addComparator(gates, gates), Check.FULL);
            CHECK.each("a", a -> x.addComparator(a, 0), Check.INVALID, -1, gates + 1);
            CHECK.each("b", b -> x.addComparator(0, b), Check.INVALID, -1, gates + 1);
            CHECK.due("nodeCount()", x.nodeCount(), gates + 1);
        }
    }

    private static void removeGateAnswersTheType() {
        CHECK.sentence("Promise 10: Removes the last gate. Returns the type it had");
        SelfCheckingCircuit x = CHECK.made("i6;" + "g0,0,0;g1,0,0;g2,0,0;g3,0,0;g4,0,0;g5,0;".repeat(4));
        for (int gate = 23; gate >= 0; gate--) {
            CHECK.due("removeGate()", x.removeGate(), gate % 6);
            CHECK.due("nodeCount()", x.nodeCount(), 6 + gate);
            CHECK.due("typeOf of the removed one", x.typeOf(6 + gate), Check.INVALID);
        }
        CHECK.due("typeOf(5)", x.typeOf(5), SelfCheckingCircuit.INPUT);
    }

    private static void removeGateOfNone() {
        CHECK.sentence("Promise 10: NOT_FOUND if there is no gate");
        for (int inputs = 1; inputs <= 6; inputs++) {
            SelfCheckingCircuit x = CHECK.made("i" + inputs + ";");
            CHECK.due("removeGate()", x.removeGate(), Check.NONE);
            x.addOutput(inputs - 1);
            CHECK.due("removeGate(), the last input is an output", x.removeGate(), Check.NONE);
            x.addGate(5, 0, 0);
            CHECK.due("removeGate() of one", x.removeGate(), SelfCheckingCircuit.NOT);
            CHECK.due("removeGate() of none again", x.removeGate(), Check.NONE);
        }
    }

    private static void removeGateOfAnOutput() {
        CHECK.sentence("Promise 10: NOT_POSSIBLE if the gate is an output");
        for (int output = 0; output < 6; output++) {
            SelfCheckingCircuit x = CHECK.made("i1;g5,0;g5,0;" + "o1;".repeat(output) + "o2;"
                    + "o0;".repeat(5 - output));
            CHECK.due("removeGate() of output " + output, x.removeGate(), Check.IMPOSSIBLE);
            CHECK.due("nodeCount()", x.nodeCount(), 3);
            x.clearOutputs();
            CHECK.due("removeGate() of no output", x.removeGate(), SelfCheckingCircuit.NOT);
        }
        // Only the last gate counts: that a gate before it is an output does no harm.
        CHECK.due("removeGate() behind an output", CHECK.made("i1;g5,0;g5,0;o1;").removeGate(), 5);
    }

    private static void addOutputNode() {
        CHECK.sentence("Promise 11: node: number of an existing node; INVALID_ARGUMENT if there is no such "
                + "node");
        int[][] sizes = {{1, 0}, {3, 4}, {6, 24}};
        for (int[] size : sizes) {
            SelfCheckingCircuit x = CHECK.made(Check.sized(size[0], size[1], 0));
            CHECK.range("addOutput", x::addOutput, 0, size[0] + size[1] - 1);
            CHECK.due("outputNode(1)", x.outputNode(1), size[0] + size[1] - 1);
            CHECK.due("outputNode(2)", x.outputNode(2), Check.INVALID);
        }
    }

    private static void addOutputBehindTheOthers() {
        CHECK.sentence("Promise 11: Adds an output behind the others. Returns the number of outputs");
        SelfCheckingCircuit x = CHECK.made("i6;");
        for (int k = 0; k < 6; k++) {
            CHECK.due("addOutput(" + (5 - k) + ")", x.addOutput(5 - k), k + 1);
            for (int output = 0; output < 6; output++) {
                CHECK.due("outputNode(" + output + ")", x.outputNode(output),
                        output <= k ? 5 - output : Check.INVALID);
            }
        }
    }

    private static void addOutputFull() {
        CHECK.sentence("Promise 11: INVALID_ARGUMENT; CAPACITY_EXCEEDED if there are already 6 outputs");
        SelfCheckingCircuit x = CHECK.made(Check.sized(2, 1, 5));
        CHECK.due("addOutput(2), the sixth", x.addOutput(2), 6);
        CHECK.each("addOutput to 6", x::addOutput, Check.FULL, 0, 1, 2);
        CHECK.each("addOutput to 6", x::addOutput, Check.INVALID, Check.MIN, -1, 3, Check.MAX);
        CHECK.due("outputNode(5)", x.outputNode(5), 2);
        x.clearOutputs();
        CHECK.due("addOutput when there is room again", x.addOutput(1), 1);
    }

    private static void clearOutputs() {
        CHECK.sentence("Promise 12: Removes all outputs. Returns the number of outputs there were.");
        for (int outputs = 0; outputs <= 6; outputs++) {
            SelfCheckingCircuit x = CHECK.made(Check.sized(1, 0, outputs));
            CHECK.due("clearOutputs() of " + outputs, x.clearOutputs(), outputs);
            CHECK.each("outputNode", x::outputNode, Check.INVALID, 0, 1, 2, 3, 4, 5);
            CHECK.due("clearOutputs() of none", x.clearOutputs(), 0);
        }
    }

    private static void setNormalWord() {
        CHECK.sentence("Promise 13: word: an input word of the circuit");
        for (int inputs = 1; inputs <= 6; inputs++) {
            SelfCheckingCircuit x = CHECK.made("i" + inputs + ";");
            int last = (1 << inputs) - 1;
            CHECK.range("setNormal(word, 0)", word -> x.setNormal(word, 0), 0, last);
            CHECK.due("isNormal(0)", x.isNormal(0), 0);
            CHECK.due("isNormal of the last", x.isNormal(last), 0);
            CHECK.range("setNormal(word, 1)", word -> x.setNormal(word, 1), 0, last);
            CHECK.due("isNormal(0)", x.isNormal(0), 1);
            CHECK.due("isNormal of the last", x.isNormal(last), 1);
            // The count of a shift would be the same for these as for the word 0.
            CHECK.each("setNormal(word, 0)", word -> x.setNormal(word, 0), Check.INVALID, 64, 128, -64);
        }
    }

    private static void setNormalFlag() {
        CHECK.sentence("Promise 13: normal: 1 to make it normal, 0 to make it not normal; INVALID_ARGUMENT "
                + "if an argument is out of range");
        SelfCheckingCircuit x = new SelfCheckingCircuit();
        CHECK.range("setNormal(0, normal)", normal -> x.setNormal(0, normal), 0, 1);
        CHECK.due("isNormal(0)", x.isNormal(0), 1);
        CHECK.each("setNormal(0, normal)", normal -> x.setNormal(0, normal), Check.INVALID, 2, 3, -2);
        CHECK.each("setNormal(16, normal)", normal -> x.setNormal(16, normal), Check.INVALID, -1, 0, 1, 2);
        CHECK.due("isNormal(0)", x.isNormal(0), 1);
    }

    private static void setNormalAnswersTheCount() {
        CHECK.sentence("Promise 13: Returns the number of normal words");
        SelfCheckingCircuit x = CHECK.made("i6;");
        for (int word = 0; word < 64; word++) {
            CHECK.due("setNormal(" + word + ", 0)", x.setNormal(word, 0), 63 - word);
        }
        CHECK.due("setNormal(63, 0) again", x.setNormal(63, 0), 0);
        for (int word = 63; word >= 0; word--) {
            CHECK.due("setNormal(" + word + ", 1)", x.setNormal(word, 1), 64 - word);
        }
        CHECK.due("setNormal(0, 1) again", x.setNormal(0, 1), 64);
    }

    private static void setCodeCode() {
        CHECK.sentence("Promise 14: code: ALL_WORDS, TWO_RAIL, CONSTANT_WEIGHT or BERGER");
        SelfCheckingCircuit x = new SelfCheckingCircuit();
        CHECK.range("setCode(code, 0)", code -> x.setCode(code, 0), SelfCheckingCircuit.ALL_WORDS,
                SelfCheckingCircuit.BERGER);
        CHECK.range("setCode(code, 6)", code -> x.setCode(code, 6), SelfCheckingCircuit.ALL_WORDS,
                SelfCheckingCircuit.BERGER);
    }

    private static void setCodeWeight() {
        CHECK.sentence("Promise 14: weight: 0 to 6; INVALID_ARGUMENT if an argument is out of range");
        for (int weight = 0; weight <= 6; weight++) {
            SelfCheckingCircuit x = CHECK.made(Check.sized(1, 0, 6));
            CHECK.due("setCode(2, " + weight + ")", x.setCode(2, weight), SelfCheckingCircuit.TWO_RAIL);
            for (int ones = 0; ones <= 6; ones++) {
                int word = (1 << ones) - 1;
                CHECK.due("isCodeWord(" + word + ")", x.isCodeWord(word), ones == weight ? 1 : 0);
            }
            CHECK.each("setCode(3, weight)", w -> x.setCode(3, w), Check.INVALID, Check.MIN, -1, 7, Check.MAX);
            CHECK.each("setCode(4, weight)", w -> x.setCode(4, w), Check.INVALID, 0, 6, 7);
            CHECK.due("isCodeWord", x.isCodeWord((1 << weight) - 1), 1);
            CHECK.due("setCode(0, 0)", x.setCode(0, 0), SelfCheckingCircuit.CONSTANT_WEIGHT);
        }
    }

    private static void setCodeAnswersThePrevious() {
        CHECK.sentence("Promise 14: Returns the previous output code");
        for (int before = 0; before <= 3; before++) {
            for (int after = 0; after <= 3; after++) {
                SelfCheckingCircuit x = new SelfCheckingCircuit();
                CHECK.due("setCode(" + before + ", 1)", x.setCode(before, 1), 1);
                CHECK.due("setCode(" + after + ", 2)", x.setCode(after, 2), before);
                CHECK.due("undo()", x.undo(), 1);
                CHECK.due("setCode after undo", x.setCode(0, 0), before);
            }
        }
    }

    private static void undoAnswersTheRest() {
        CHECK.sentence("Promise 15: Returns the number of edits that can still be undone");
        for (int edits = 1; edits <= 7; edits++) {
            SelfCheckingCircuit x = new SelfCheckingCircuit();
            for (int k = 0; k < edits; k++) {
                x.setNormal(k, 1);
            }
            for (int left = Math.min(edits, 5) - 1; left >= 0; left--) {
                CHECK.due("undo() of " + edits, x.undo(), left);
            }
        }
    }

    private static void undoOfNone() {
        CHECK.sentence("Promise 15: NOT_POSSIBLE if there is none to undo");
        SelfCheckingCircuit x = new SelfCheckingCircuit();
        CHECK.due("undo() of a new object", x.undo(), Check.IMPOSSIBLE);
        x.addOutput(0);
        CHECK.due("undo() of one", x.undo(), 0);
        CHECK.due("undo() of none", x.undo(), Check.IMPOSSIBLE);
        CHECK.due("undo() of none again", x.undo(), Check.IMPOSSIBLE);
        CHECK.due("addOutput(0)", x.addOutput(0), 3);
        CHECK.due("undo() of one", x.undo(), 0);
        CHECK.due("outputNode(2)", x.outputNode(2), Check.INVALID);
    }

    private static Map<String, Consumer<SelfCheckingCircuit>> edits() {
        Map<String, Consumer<SelfCheckingCircuit>> edits = new LinkedHashMap<>();
        edits.put("addGate", x -> x.addGate(0, 0, 0));
        edits.put("addGate of NOT", x -> x.addGate(5, 0, -1));
        edits.put("addTwoRailCell", x -> x.addTwoRailCell(0, 0, 0, 0));
        edits.put("addComparator", x -> x.addComparator(0, 0));
        edits.put("removeGate", x -> x.removeGate());
        edits.put("addOutput", x -> x.addOutput(0));
        edits.put("clearOutputs", x -> x.clearOutputs());
        edits.put("setNormal to 1", x -> x.setNormal(0, 1));
        edits.put("setNormal to 0", x -> x.setNormal(5, 0));
        edits.put("setCode", x -> x.setCode(3, 4));
        return edits;
    }

    /** A new object whose last gate is no output, so that every edit is possible. */
    private static SelfCheckingCircuit editable() {
        SelfCheckingCircuit x = CHECK.made("i4;g0,0,2;g2,1,3;g5,4;o4;o5;w5;w10;");
        x.setCode(2, 1);
        x.setNormal(9, 1);
        return x;
    }

    private static void everyEditIsOne() {
        CHECK.sentence("Every successful call of addGate, addTwoRailCell, addComparator, removeGate, "
                + "addOutput, clearOutputs, setNormal and setCode is an edit");
        var due = Picture.of(EditBoundsTest::editable);
        edits().forEach((name, edit) -> {
            SelfCheckingCircuit x = editable();
            edit.accept(x);
            CHECK.due("undo() of " + name, x.undo(), 2);
            var after = Picture.of(() -> {
                SelfCheckingCircuit y = editable();
                edit.accept(y);
                return y;
            });
            CHECK.due(name + " changes something", after.equals(due) ? 1 : 0, 0);
            var undone = Picture.of(() -> {
                SelfCheckingCircuit y = editable();
                edit.accept(y);
                y.undo();
                return y;
            });
            CHECK.due("undo() brings all back from " + name, undone.equals(due) ? 1 : 0, 1);
        });
    }

    private static void editsThatLeaveEverything() {
        CHECK.sentence("also if it leaves everything as it was");
        Map<String, Consumer<SelfCheckingCircuit>> idle = new LinkedHashMap<>();
        idle.put("clearOutputs of none", x -> x.clearOutputs());
        idle.put("setNormal of a normal word", x -> x.setNormal(1, 1));
        idle.put("setNormal of no normal word", x -> x.setNormal(0, 0));
        idle.put("setCode to the same", x -> x.setCode(1, 0));
        idle.forEach((name, edit) -> {
            SelfCheckingCircuit x = CHECK.made("i1;w1;");
            edit.accept(x);
            CHECK.due("undo() of " + name, x.undo(), 0);
            CHECK.due("undo() of none", x.undo(), Check.IMPOSSIBLE);
            // Five of them push out the edit before them.
            x.addGate(5, 0, 0);
            for (int k = 0; k < 5; k++) {
                edit.accept(x);
            }
            for (int left = 4; left >= 0; left--) {
                CHECK.due("undo() of " + name, x.undo(), left);
            }
            CHECK.due("undo() of the sixth", x.undo(), Check.IMPOSSIBLE);
            CHECK.due("nodeCount()", x.nodeCount(), 2);
        });
    }

    private static void otherCallsAreNoEdits() {
        CHECK.sentence("Every successful call of (the edits, and no other call) is an edit");
        SelfCheckingCircuit x = new SelfCheckingCircuit();
        x.append('i');
        x.firstError();
        x.errorReason();
        x.clearText();
        x.nodeCount();
        x.typeOf(0);
        x.operandOf(4, 0);
        x.outputNode(0);
        x.isNormal(0);
        x.outputWord(0, 0);
        x.isCodeWord(0);
        x.errorKind(0, 0);
        x.firstTest(0);
        x.firstUnsafe(0);
        x.testableFaults();
        x.secureFaults();
        x.isCodeDisjoint();
        x.isUnordered();
        x.greedyTest(0);
        CHECK.due("undo()", x.undo(), Check.IMPOSSIBLE);
    }

    private static void newestFive() {
        CHECK.sentence("The newest 5 edits can be undone, the newest first.");
        SelfCheckingCircuit x = CHECK.made("i6;");
        for (int k = 1; k <= 11; k++) {
            CHECK.due("addGate", x.addGate(k % 6, k % 6, 0), 5 + k);
        }
        for (int k = 11; k > 6; k--) {
            CHECK.due("undo()", x.undo(), k - 7);
            CHECK.due("nodeCount()", x.nodeCount(), 5 + k);
            CHECK.due("typeOf of the last", x.typeOf(4 + k), (k - 1) % 6);
        }
        CHECK.due("undo() of the sixth", x.undo(), Check.IMPOSSIBLE);
        CHECK.due("nodeCount()", x.nodeCount(), 12);
    }

    /** All orders of 13 edits and undos, so that the places of the edits go round in every way. */
    private static void everyOrderOfEdits() {
        CHECK.sentence("The newest 5 edits can be undone (in every order of edits and undos)");
        for (int order = 0; order < 1 << 13; order++) {
            SelfCheckingCircuit x = new SelfCheckingCircuit();
            Deque<Integer> past = new ArrayDeque<>();
            int nodes = 10;
            for (int step = 0; step < 13; step++) {
                if ((order >> step & 1) == 0) {
                    past.push(nodes);
                    if (past.size() > 5) {
                        past.removeLast();
                    }
                    CHECK.due("addGate", x.addGate(5, step % 10, 0), nodes);
                    nodes++;
                } else {
                    nodes = past.isEmpty() ? nodes : past.peek();
                    CHECK.due("undo(), order " + order, x.undo(),
                            past.isEmpty() ? Check.IMPOSSIBLE : past.size() - 1);
                    past.poll();
                }
                CHECK.due("nodeCount(), order " + order, x.nodeCount(), nodes);
            }
        }
    }

    private static void afterConfigure() {
        CHECK.sentence("After configure nothing can be undone.");
        for (int edits = 0; edits <= 6; edits++) {
            SelfCheckingCircuit x = Check.withText("i3;");
            for (int k = 0; k < edits; k++) {
                x.setCode(2, k);
            }
            CHECK.due("configure()", x.configure(), 3);
            CHECK.due("undo() after " + edits + " edits", x.undo(), Check.IMPOSSIBLE);
            CHECK.due("nodeCount()", x.nodeCount(), 3);
            for (int k = 0; k < 5; k++) {
                x.addGate(5, 0, 0);
            }
            for (int left = 4; left >= 0; left--) {
                CHECK.due("undo() of edits behind configure", x.undo(), left);
            }
            CHECK.due("undo() no further than configure", x.undo(), Check.IMPOSSIBLE);
            CHECK.due("nodeCount()", x.nodeCount(), 3);
        }
    }

    private static void refusedConfigureKeepsEdits() {
        CHECK.sentence("After configure nothing can be undone (but after a refused one)");
        String[] refused = {"", "x", "i7;", "i1;w2;"};
        for (String text : refused) {
            SelfCheckingCircuit x = Check.withText(text);
            x.addGate(5, 0, 0);
            x.addOutput(10);
            CHECK.due("configure() by " + text, x.configure(), Check.IMPOSSIBLE);
            CHECK.due("undo()", x.undo(), 1);
            CHECK.due("outputNode(2)", x.outputNode(2), Check.INVALID);
            CHECK.due("undo()", x.undo(), 0);
            CHECK.due("nodeCount()", x.nodeCount(), 10);
        }
    }

    private static void textIsNotAffected() {
        CHECK.sentence("The circuit text is not affected.");
        edits().forEach((name, edit) -> {
            SelfCheckingCircuit x = Check.put(editable(), "i1;o0;");
            edit.accept(x);
            CHECK.due("append behind " + name, x.append('w'), 7);
            CHECK.due("undo()", x.undo(), 2);
            CHECK.due("append behind undo", x.append('1'), 8);
            CHECK.due("undo()", x.undo(), 1);
            CHECK.due("append behind undo", x.append(';'), 9);
            CHECK.due("configure()", x.configure(), 1);
            CHECK.due("isNormal(1)", x.isNormal(1), 1);
            CHECK.due("isNormal(0)", x.isNormal(0), 0);
            CHECK.due("clearText()", x.clearText(), 9);
        });
    }
}
