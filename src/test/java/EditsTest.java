/** Promises 7 to 15: the edits and undo. */
public final class EditsTest {
    private static final int MIN = Integer.MIN_VALUE;
    private static final int MAX = Integer.MAX_VALUE;
    private static final Check CHECK = new Check();

    public static void main(String[] args) {
        addGate();
        addGateRefuses();
        addTwoRailCell();
        addTwoRailCellRefuses();
        addComparator();
        addComparatorRefuses();
        removeGate();
        addOutput();
        clearOutputs();
        setNormal();
        setCode();
        undoOfEachEdit();
        undoReachesFiveEdits();
        undoAfterNewEdits();
        undoOfEditsThatLeaveEverything();
        refusedCallsAreNoEdits();
        undoLeavesTheText();
        CHECK.end();
    }

    private static void gate(SelfCheckingCircuit x, int node, int type, int first, int second) {
        CHECK.due("typeOf(" + node + ")", x.typeOf(node), type);
        CHECK.due("operandOf(" + node + ", 0)", x.operandOf(node, 0), first);
        CHECK.due("operandOf(" + node + ", 1)", x.operandOf(node, 1), second);
    }

    /** Promise 7. */
    private static void addGate() {
        SelfCheckingCircuit x = CHECK.made("i2;");
        for (int type = SelfCheckingCircuit.AND; type <= SelfCheckingCircuit.NOR; type++) {
            CHECK.due("7: addGate(" + type + ", 1, 0)", x.addGate(type, 1, 0), 2 + type);
            gate(x, 2 + type, type, 1, 0);
        }
        CHECK.due("7: addGate(5, 6, MIN)", x.addGate(5, 6, MIN), 7);
        gate(x, 7, 5, 6, -104);
        CHECK.due("7: addGate(5, 7, MAX)", x.addGate(5, 7, MAX), 8);
        gate(x, 8, 5, 7, -104);
        CHECK.due("7: addGate(2, 8, 8)", x.addGate(2, 8, 8), 9);
        gate(x, 9, 2, 8, 8);
        CHECK.due("7: nodeCount()", x.nodeCount(), 10);
    }

    private static void addGateRefuses() {
        SelfCheckingCircuit x = CHECK.made("i6;" + "g5,0;".repeat(23));
        int[][] wrong = {
            {-1, 0, 0}, {6, 0, 0}, {7, 0, 0}, {MIN, 0, 0}, {MAX, 0, 0},
            {0, -1, 0}, {0, 29, 0}, {0, 0, -1}, {0, 0, 29}, {4, MIN, 0}, {4, 0, MAX},
            {5, -1, 0}, {5, 29, 0}
        };
        for (int round = 0; round < 2; round++) {
            for (int[] w : wrong) {
                // In the second round there is a node 29, and there are 24 gates.
                int first = w[1] == 29 ? 29 + round : w[1];
                int second = w[2] == 29 ? 29 + round : w[2];
                CHECK.due("7: addGate(" + w[0] + ", " + first + ", " + second + ")",
                        x.addGate(w[0], first, second), -101);
            }
            CHECK.due("7: nodeCount()", x.nodeCount(), 29 + round);
            if (round == 0) {
                CHECK.due("7: addGate(1, 28, 5), the 24th", x.addGate(1, 28, 5), 29);
            }
        }
        CHECK.due("7: addGate(0, 0, 0), the 25th", x.addGate(0, 0, 0), -103);
        CHECK.due("7: addGate(5, 29, MIN), the 25th", x.addGate(5, 29, MIN), -103);
        CHECK.due("7: nodeCount()", x.nodeCount(), 30);
    }

    /** Promise 8. */
    private static void addTwoRailCell() {
        SelfCheckingCircuit x = CHECK.made("i5;");
        CHECK.due("8: addTwoRailCell(4, 1, 2, 3)", x.addTwoRailCell(4, 1, 2, 3), 10);
        gate(x, 5, 0, 4, 2);
        gate(x, 6, 0, 1, 3);
        gate(x, 7, 1, 5, 6);
        gate(x, 8, 0, 4, 3);
        gate(x, 9, 0, 1, 2);
        gate(x, 10, 1, 8, 9);
        CHECK.due("8: addTwoRailCell(0, 0, 10, 10)", x.addTwoRailCell(0, 0, 10, 10), 16);
        CHECK.due("8: undo() of the second cell", x.undo(), 1);
        CHECK.due("8: nodeCount()", x.nodeCount(), 11);
    }

    private static void addTwoRailCellRefuses() {
        SelfCheckingCircuit x = CHECK.made("i1;" + "g5,0;".repeat(18));
        int[] wrong = {-1, 19, MIN, MAX};
        for (int node : wrong) {
            CHECK.due("8: a = " + node, x.addTwoRailCell(node, 0, 0, 0), -101);
            CHECK.due("8: b = " + node, x.addTwoRailCell(0, node, 0, 0), -101);
            CHECK.due("8: c = " + node, x.addTwoRailCell(0, 0, node, 0), -101);
            CHECK.due("8: d = " + node, x.addTwoRailCell(0, 0, 0, node), -101);
        }
        CHECK.due("8: nodeCount()", x.nodeCount(), 19);
        CHECK.due("8: a cell up to 24 gates", x.addTwoRailCell(18, 18, 18, 18), 24);
        CHECK.due("8: removeGate()", x.removeGate(), 1);
        CHECK.due("8: no room", x.addTwoRailCell(0, 1, 2, 3), -103);
        CHECK.due("8: no node before no room", x.addTwoRailCell(0, 1, 2, 24), -101);
        CHECK.due("8: nodeCount()", x.nodeCount(), 24);
        SelfCheckingCircuit y = CHECK.made("i6;" + "g5,0;".repeat(19));
        CHECK.due("8: five gates of room", y.addTwoRailCell(0, 1, 2, 3), -103);
        CHECK.due("8: nodeCount()", y.nodeCount(), 25);
    }

    /** Promise 9. */
    private static void addComparator() {
        SelfCheckingCircuit x = CHECK.made("i3;");
        CHECK.due("9: addComparator(2, 0)", x.addComparator(2, 0), 4);
        gate(x, 3, 1, 2, 0);
        gate(x, 4, 0, 2, 0);
        CHECK.due("9: addComparator(4, 4)", x.addComparator(4, 4), 6);
        gate(x, 5, 1, 4, 4);
        gate(x, 6, 0, 4, 4);
        CHECK.due("9: undo()", x.undo(), 1);
        CHECK.due("9: nodeCount()", x.nodeCount(), 5);
    }

    private static void addComparatorRefuses() {
        SelfCheckingCircuit x = CHECK.made("i6;" + "g5,0;".repeat(22));
        int[] wrong = {-1, 28, MIN, MAX};
        for (int node : wrong) {
            CHECK.due("9: a = " + node, x.addComparator(node, 0), -101);
            CHECK.due("9: b = " + node, x.addComparator(0, node), -101);
        }
        CHECK.due("9: a comparator up to 24 gates", x.addComparator(27, 27), 29);
        CHECK.due("9: no room", x.addComparator(0, 0), -103);
        CHECK.due("9: no node before no room", x.addComparator(0, 30), -101);
        CHECK.due("9: removeGate()", x.removeGate(), 0);
        CHECK.due("9: one gate of room", x.addComparator(0, 0), -103);
        CHECK.due("9: nodeCount()", x.nodeCount(), 29);
    }

    /** Promise 10. */
    private static void removeGate() {
        SelfCheckingCircuit x = CHECK.made("i1;g0,0,0;g1,0,0;g2,0,0;g3,0,0;g4,0,0;g5,0;o3;o0;");
        for (int type = SelfCheckingCircuit.NOT; type >= SelfCheckingCircuit.NAND; type--) {
            CHECK.due("10: removeGate()", x.removeGate(), type);
            CHECK.due("10: nodeCount()", x.nodeCount(), type + 1);
        }
        CHECK.due("10: removeGate() of an output", x.removeGate(), -102);
        CHECK.due("10: nodeCount()", x.nodeCount(), 4);
        x.clearOutputs();
        for (int type = SelfCheckingCircuit.XOR; type >= SelfCheckingCircuit.AND; type--) {
            CHECK.due("10: removeGate()", x.removeGate(), type);
        }
        CHECK.due("10: removeGate() of none", x.removeGate(), -104);
        x.addOutput(0);
        CHECK.due("10: an input that is an output is no gate", x.removeGate(), -104);
        CHECK.due("10: nodeCount()", x.nodeCount(), 1);
        SelfCheckingCircuit y = CHECK.made("i1;g5,0;g5,1;" + "o1;".repeat(5) + "o2;");
        CHECK.due("10: removeGate() of the last output", y.removeGate(), -102);
    }

    /** Promise 11. */
    private static void addOutput() {
        SelfCheckingCircuit x = CHECK.made("i2;g5,0;");
        int[] wrong = {-1, 3, MIN, MAX};
        int[] nodes = {2, 0, 2, 2, 1, 0};
        for (int k = 0; k < nodes.length; k++) {
            for (int node : wrong) {
                CHECK.due("11: addOutput(" + node + ")", x.addOutput(node), -101);
            }
            CHECK.due("11: addOutput(" + nodes[k] + ")", x.addOutput(nodes[k]), k + 1);
            CHECK.due("11: outputNode(" + k + ")", x.outputNode(k), nodes[k]);
            CHECK.due("11: outputNode(" + (k + 1) + ")", x.outputNode(k + 1), -101);
        }
        CHECK.due("11: addOutput(0), the 7th", x.addOutput(0), -103);
        CHECK.due("11: addOutput(3), the 7th", x.addOutput(3), -101);
        CHECK.due("11: outputNode(5)", x.outputNode(5), 0);
        CHECK.due("11: outputNode(6)", x.outputNode(6), -101);
    }

    /** Promise 12. */
    private static void clearOutputs() {
        SelfCheckingCircuit x = CHECK.made("i2;" + "o1;".repeat(6));
        CHECK.due("12: clearOutputs()", x.clearOutputs(), 6);
        CHECK.due("12: outputNode(0)", x.outputNode(0), -101);
        CHECK.due("12: clearOutputs() of none", x.clearOutputs(), 0);
        CHECK.due("12: addOutput(0)", x.addOutput(0), 1);
        CHECK.due("12: outputNode(0)", x.outputNode(0), 0);
        CHECK.due("12: outputNode(1)", x.outputNode(1), -101);
    }

    /** Promise 13. */
    private static void setNormal() {
        SelfCheckingCircuit x = CHECK.made("i6;w0;w31;");
        CHECK.due("13: setNormal(63, 1)", x.setNormal(63, 1), 3);
        CHECK.due("13: setNormal(63, 1) again", x.setNormal(63, 1), 3);
        CHECK.due("13: setNormal(32, 1)", x.setNormal(32, 1), 4);
        CHECK.due("13: isNormal(63)", x.isNormal(63), 1);
        CHECK.due("13: isNormal(32)", x.isNormal(32), 1);
        CHECK.due("13: isNormal(33)", x.isNormal(33), 0);
        CHECK.due("13: setNormal(31, 0)", x.setNormal(31, 0), 3);
        CHECK.due("13: setNormal(1, 0)", x.setNormal(1, 0), 3);
        CHECK.due("13: isNormal(31)", x.isNormal(31), 0);
        CHECK.due("13: setNormal(63, 0)", x.setNormal(63, 0), 2);
        CHECK.due("13: setNormal(32, 0)", x.setNormal(32, 0), 1);
        CHECK.due("13: setNormal(0, 0)", x.setNormal(0, 0), 0);
        int[][] wrong = {
            {-1, 1}, {64, 1}, {64, 0}, {MIN, 1}, {MAX, 1}, {0, -1}, {0, 2}, {0, MIN}, {0, MAX}
        };
        for (int[] w : wrong) {
            CHECK.due("13: setNormal(" + w[0] + ", " + w[1] + ")", x.setNormal(w[0], w[1]), -101);
        }
        CHECK.due("13: isNormal(0)", x.isNormal(0), 0);
        SelfCheckingCircuit y = CHECK.made("i1;");
        CHECK.due("13: setNormal(2, 0)", y.setNormal(2, 0), -101);
        CHECK.due("13: setNormal(1, 0)", y.setNormal(1, 0), 1);
    }

    /** Promise 14. */
    private static void setCode() {
        SelfCheckingCircuit x = new SelfCheckingCircuit();
        int previous = SelfCheckingCircuit.TWO_RAIL;
        int[] codes = {0, 1, 2, 3, 0, 3, 2, 1, 1};
        for (int code : codes) {
            CHECK.due("14: setCode(" + code + ", 6)", x.setCode(code, 6), previous);
            previous = code;
        }
        int[][] wrong = {
            {-1, 0}, {4, 0}, {MIN, 0}, {MAX, 0}, {0, -1}, {0, 7}, {1, 7}, {2, 7}, {3, MIN}, {3, MAX}
        };
        for (int[] w : wrong) {
            CHECK.due("14: setCode(" + w[0] + ", " + w[1] + ")", x.setCode(w[0], w[1]), -101);
        }
        CHECK.due("14: setCode(2, 0)", x.setCode(2, 0), 1);
        CHECK.due("14: weight 0", x.isCodeWord(0), 1);
        CHECK.due("14: setCode(2, 2)", x.setCode(2, 2), 2);
        CHECK.due("14: weight 2", x.isCodeWord(3), 1);
        CHECK.due("14: weight 2", x.isCodeWord(0), 0);
        CHECK.due("14: undo()", x.undo(), 4);
        CHECK.due("14: weight 0 again", x.isCodeWord(0), 1);
    }

    /** Promise 15. */
    private static void undoOfEachEdit() {
        SelfCheckingCircuit x = CHECK.made("i3;g0,0,1;g1,1,2;g2,3,4;o3;o4;o0;w1;w6;");
        x.setCode(2, 1);
        x.removeGate();
        x.addComparator(2, 2);
        CHECK.due("15: undo() of addComparator", x.undo(), 2);
        CHECK.due("15: nodeCount()", x.nodeCount(), 5);
        CHECK.due("15: undo() of removeGate", x.undo(), 1);
        gate(x, 5, 2, 3, 4);
        x.clearOutputs();
        x.addOutput(5);
        CHECK.due("15: undo() of addOutput", x.undo(), 2);
        CHECK.due("15: outputNode(0)", x.outputNode(0), -101);
        CHECK.due("15: undo() of clearOutputs", x.undo(), 1);
        CHECK.due("15: outputNode(0)", x.outputNode(0), 3);
        CHECK.due("15: outputNode(1)", x.outputNode(1), 4);
        CHECK.due("15: outputNode(2)", x.outputNode(2), 0);
        x.setNormal(6, 0);
        CHECK.due("15: undo() of setNormal", x.undo(), 1);
        CHECK.due("15: isNormal(6)", x.isNormal(6), 1);
        x.setNormal(7, 1);
        CHECK.due("15: undo() of setNormal", x.undo(), 1);
        CHECK.due("15: isNormal(7)", x.isNormal(7), 0);
        x.addGate(5, 0, 0);
        CHECK.due("15: undo() of addGate", x.undo(), 1);
        CHECK.due("15: nodeCount()", x.nodeCount(), 6);
        x.addTwoRailCell(0, 1, 2, 3);
        CHECK.due("15: undo() of addTwoRailCell", x.undo(), 1);
        CHECK.due("15: nodeCount()", x.nodeCount(), 6);
        CHECK.due("15: undo() of setCode", x.undo(), 0);
        CHECK.due("15: undo() of nothing", x.undo(), -102);
        CHECK.due("15: setCode(0, 0)", x.setCode(0, 0), 1);
    }

    private static void undoReachesFiveEdits() {
        for (int edits = 0; edits <= 13; edits++) {
            SelfCheckingCircuit x = CHECK.made("i6;");
            for (int k = 0; k < edits; k++) {
                x.addGate(k % 5, k % 6, 5 - k % 6);
            }
            int undone = Math.min(edits, 5);
            for (int left = undone - 1; left >= 0; left--) {
                CHECK.due("15: undo() after " + edits + " edits", x.undo(), left);
            }
            CHECK.due("15: undo() once more", x.undo(), -102);
            CHECK.due("15: nodeCount()", x.nodeCount(), 6 + edits - undone);
            for (int k = 0; k < edits - undone; k++) {
                gate(x, 6 + k, k % 5, k % 6, 5 - k % 6);
            }
        }
    }

    /** Edits behind an undo take the place of what was undone. */
    private static void undoAfterNewEdits() {
        SelfCheckingCircuit x = CHECK.made("i2;g0,0,1;g3,1,1;");
        CHECK.due("15: removeGate()", x.removeGate(), 3);
        CHECK.due("15: removeGate()", x.removeGate(), 0);
        x.addGate(4, 0, 0);
        x.addGate(5, 2, 0);
        CHECK.due("15: undo()", x.undo(), 3);
        CHECK.due("15: undo()", x.undo(), 2);
        x.addGate(2, 1, 0);
        x.addOutput(2);
        CHECK.due("15: undo()", x.undo(), 3);
        CHECK.due("15: undo()", x.undo(), 2);
        CHECK.due("15: undo()", x.undo(), 1);
        gate(x, 2, 0, 0, 1);
        CHECK.due("15: nodeCount()", x.nodeCount(), 3);
        CHECK.due("15: undo()", x.undo(), 0);
        gate(x, 3, 3, 1, 1);
        CHECK.due("15: nodeCount()", x.nodeCount(), 4);
        CHECK.due("15: undo()", x.undo(), -102);
    }

    private static void undoOfEditsThatLeaveEverything() {
        SelfCheckingCircuit x = CHECK.made("i1;");
        x.addOutput(0);
        x.clearOutputs();
        x.clearOutputs();
        x.setNormal(1, 1);
        x.setCode(1, 0);
        x.setCode(1, 0);
        for (int left = 4; left >= 1; left--) {
            CHECK.due("15: undo()", x.undo(), left);
            CHECK.due("15: outputNode(0)", x.outputNode(0), -101);
        }
        CHECK.due("15: undo()", x.undo(), 0);
        CHECK.due("15: outputNode(0)", x.outputNode(0), 0);
        CHECK.due("15: undo()", x.undo(), -102);
    }

    private static void refusedCallsAreNoEdits() {
        SelfCheckingCircuit x = CHECK.made("i6;" + "g5,0;".repeat(24) + "o29;".repeat(6));
        x.addGate(0, 0, 0);
        x.addGate(9, 0, 0);
        x.addTwoRailCell(0, 0, 0, 0);
        x.addTwoRailCell(0, 0, 0, 99);
        x.addComparator(0, 0);
        x.addComparator(99, 0);
        x.removeGate();
        x.addOutput(0);
        x.addOutput(99);
        x.setNormal(64, 1);
        x.setCode(4, 0);
        x.append(0);
        CHECK.due("15: undo()", x.undo(), -102);
        SelfCheckingCircuit y = CHECK.made("i1;");
        y.removeGate();
        CHECK.due("15: undo()", y.undo(), -102);
    }

    private static void undoLeavesTheText() {
        SelfCheckingCircuit x = new SelfCheckingCircuit();
        x.append('i');
        x.addOutput(0);
        x.append('2');
        CHECK.due("15: undo()", x.undo(), 0);
        CHECK.due("15: append(59)", x.append(';'), 3);
        CHECK.due("15: firstError()", x.firstError(), -104);
        x.addOutput(0);
        x.clearText();
        CHECK.due("15: undo() after clearText", x.undo(), 0);
        CHECK.due("15: clearText()", x.clearText(), 0);
    }
}
