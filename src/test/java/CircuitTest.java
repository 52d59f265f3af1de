/** Promises 16 to 20: nodeCount, typeOf, operandOf, outputNode, isNormal. */
public final class CircuitTest {
    private static final int[] NEVER = {-1, -104, 30, 64, Integer.MIN_VALUE, Integer.MAX_VALUE};
    private static final Check CHECK = new Check();

    public static void main(String[] args) {
        nodeCount();
        typeOf();
        operandOf();
        outputNode();
        isNormal();
        CHECK.end();
    }

    /** Promise 16. */
    private static void nodeCount() {
        CHECK.due("16: nodeCount() of a new object", new SelfCheckingCircuit().nodeCount(), 10);
        for (int inputs = 1; inputs <= 6; inputs++) {
            SelfCheckingCircuit x = CHECK.made("i" + inputs + ";");
            CHECK.due("16: nodeCount() of inputs", x.nodeCount(), inputs);
            x.addGate(5, 0, 0);
            CHECK.due("16: nodeCount() with a gate", x.nodeCount(), inputs + 1);
            x.addTwoRailCell(0, 0, 0, 0);
            CHECK.due("16: nodeCount() with a cell", x.nodeCount(), inputs + 7);
            x.addComparator(0, 0);
            CHECK.due("16: nodeCount() with a comparator", x.nodeCount(), inputs + 9);
            x.removeGate();
            CHECK.due("16: nodeCount() without the last", x.nodeCount(), inputs + 8);
            x.undo();
            CHECK.due("16: nodeCount() after undo", x.nodeCount(), inputs + 9);
        }
        CHECK.due("16: nodeCount() of a full circuit",
                CHECK.made("i6;" + "g5,0;".repeat(24)).nodeCount(), 30);
    }

    /** Promise 17. */
    private static void typeOf() {
        SelfCheckingCircuit x = CHECK.made("i2;g0,0,1;g1,0,1;g2,0,1;g3,0,1;g4,0,1;g5,0;");
        int[] types = {6, 6, 0, 1, 2, 3, 4, 5};
        for (int node = 0; node < types.length; node++) {
            CHECK.due("17: typeOf(" + node + ")", x.typeOf(node), types[node]);
        }
        CHECK.due("17: typeOf(8)", x.typeOf(8), -101);
        for (int node : NEVER) {
            CHECK.due("17: typeOf(" + node + ")", x.typeOf(node), -101);
        }
        x.removeGate();
        CHECK.due("17: typeOf(7) when it is removed", x.typeOf(7), -101);
    }

    /** Promise 18. */
    private static void operandOf() {
        SelfCheckingCircuit x = CHECK.made("i3;g0,0,1;g5,2;g4,4,3;g2,1,1;");
        int[][] operands = {
            {-104, -104}, {-104, -104}, {-104, -104}, {0, 1}, {2, -104}, {4, 3}, {1, 1}
        };
        for (int node = 0; node < operands.length; node++) {
            for (int index = 0; index < 2; index++) {
                CHECK.due("18: operandOf(" + node + ", " + index + ")",
                        x.operandOf(node, index), operands[node][index]);
            }
            CHECK.due("18: index 2", x.operandOf(node, 2), -101);
            CHECK.due("18: index -1", x.operandOf(node, -1), -101);
            CHECK.due("18: least index", x.operandOf(node, Integer.MIN_VALUE), -101);
            CHECK.due("18: greatest index", x.operandOf(node, Integer.MAX_VALUE), -101);
        }
        CHECK.due("18: operandOf(7, 0)", x.operandOf(7, 0), -101);
        for (int node : NEVER) {
            CHECK.due("18: operandOf(" + node + ", 0)", x.operandOf(node, 0), -101);
            CHECK.due("18: operandOf(" + node + ", 2)", x.operandOf(node, 2), -101);
        }
    }

    /** Promise 19. */
    private static void outputNode() {
        SelfCheckingCircuit x = CHECK.made("i3;g0,0,1;o2;o3;o2;o0;");
        int[] nodes = {2, 3, 2, 0, -101, -101, -101};
        for (int output = 0; output < nodes.length; output++) {
            CHECK.due("19: outputNode(" + output + ")", x.outputNode(output), nodes[output]);
        }
        for (int output : NEVER) {
            CHECK.due("19: outputNode(" + output + ")", x.outputNode(output), -101);
        }
        SelfCheckingCircuit full = CHECK.made("i6;o0;o1;o2;o3;o4;o5;");
        for (int output = 0; output < 6; output++) {
            CHECK.due("19: outputNode(" + output + ")", full.outputNode(output), output);
        }
        CHECK.due("19: outputNode(6)", full.outputNode(6), -101);
    }

    /** Promise 20. */
    private static void isNormal() {
        for (int inputs = 1; inputs <= 6; inputs++) {
            int words = 1 << inputs;
            SelfCheckingCircuit all = CHECK.made("i" + inputs + ";");
            SelfCheckingCircuit last = CHECK.made("i" + inputs + ";w" + (words - 1) + ";");
            for (int word = 0; word < words; word++) {
                CHECK.due("20: isNormal(" + word + ") of all", all.isNormal(word), 1);
                CHECK.due("20: isNormal(" + word + ") of one", last.isNormal(word),
                        word == words - 1 ? 1 : 0);
            }
            CHECK.due("20: isNormal(" + words + ")", all.isNormal(words), -101);
            CHECK.due("20: isNormal(-1)", all.isNormal(-1), -101);
            CHECK.due("20: the least number", all.isNormal(Integer.MIN_VALUE), -101);
            CHECK.due("20: the greatest number", all.isNormal(Integer.MAX_VALUE), -101);
        }
    }
}
