/** The boundary cases of the document's description of circuits, faults and normal words. */
public final class CircuitBoundsTest {
    private static final Check CHECK = new Check();

    public static void main(String[] args) {
        use512Calls();
        oneToSixInputs();
        atMost24GatesInTheText();
        atMost24GatesByEdits();
        gatesFollowTheInputs();
        operandsHaveSmallerNumbers();
        operandsMayBeTheSame();
        operandsOfEachType();
        negations();
        atMostSixOutputs();
        severalOutputsOfANode();
        bitsOfInputWords();
        bitsOfOutputWords();
        noOutputs();
        faultsHoldWhateverInputsSay();
        faultsAreSeenByAllGates();
        withoutAFault();
        faultsOfACircuit();
        statedWordsAreNormal();
        allWordsAreNormal();
        CHECK.end();
    }

    private static void use512Calls() {
        CHECK.sentence("An object is used for at most 512 calls after it has been made");
        SelfCheckingCircuit x = new SelfCheckingCircuit();
        for (int call = 1; call <= 200; call++) {
            CHECK.due("append, call " + call, x.append('w'), call);
        }
        for (int call = 201; call <= 506; call++) {
            CHECK.due("setNormal, call " + call, x.setNormal(0, call & 1), 4 + (call & 1));
        }
        for (int call = 507; call <= 511; call++) {
            CHECK.due("undo(), call " + call, x.undo(), 511 - call);
        }
        CHECK.due("undo(), call 512", x.undo(), Check.IMPOSSIBLE);
    }

    private static void oneToSixInputs() {
        CHECK.sentence("A circuit has 1 to 6 inputs");
        for (int inputs = 0; inputs <= 99; inputs++) {
            boolean taken = inputs >= 1 && inputs <= 6;
            SelfCheckingCircuit x = Check.withText("i" + inputs + ";");
            CHECK.due("firstError() of i" + inputs + ";", x.firstError(), taken ? Check.NONE : 0);
            CHECK.due("configure() by i" + inputs + ";", x.configure(),
                    taken ? inputs : Check.IMPOSSIBLE);
            CHECK.due("nodeCount()", x.nodeCount(), taken ? inputs : 10);
        }
    }

    private static void atMost24GatesInTheText() {
        CHECK.sentence("at most 24 gates (in the text)");
        for (int inputs = 1; inputs <= 6; inputs++) {
            for (int gates = 23; gates <= 25; gates++) {
                SelfCheckingCircuit x = Check.withText(Check.sized(inputs, gates, 0));
                CHECK.due("configure() with " + gates + " gates", x.configure(),
                        gates <= 24 ? inputs + gates : Check.IMPOSSIBLE);
            }
        }
    }

    private static void atMost24GatesByEdits() {
        CHECK.sentence("at most 24 gates (by edits)");
        for (int inputs = 1; inputs <= 6; inputs++) {
            for (int gates = 0; gates <= 24; gates++) {
                int nodes = inputs + gates;
                CHECK.due("addGate with " + gates + " gates", addTo(inputs, gates).addGate(0, 0, 0),
                        gates <= 23 ? nodes : Check.FULL);
                CHECK.due("addTwoRailCell with " + gates + " gates",
                        addTo(inputs, gates).addTwoRailCell(0, 0, 0, 0),
                        gates <= 18 ? nodes + 5 : Check.FULL);
                CHECK.due("addComparator with " + gates + " gates",
                        addTo(inputs, gates).addComparator(0, 0),
                        gates <= 22 ? nodes + 1 : Check.FULL);
            }
        }
    }

    private static SelfCheckingCircuit addTo(int inputs, int gates) {
        return CHECK.made(Check.sized(inputs, gates, 0));
    }

    private static void gatesFollowTheInputs() {
        CHECK.sentence("the inputs are the nodes 0, 1, ..., and the gates follow in the order in "
                + "which they are added");
        for (int inputs = 1; inputs <= 6; inputs++) {
            SelfCheckingCircuit x = CHECK.made("i" + inputs + ";g3,0,0;g5,0;");
            x.addGate(SelfCheckingCircuit.NOR, 0, 0);
            for (int node = 0; node < inputs; node++) {
                CHECK.due("typeOf(" + node + ")", x.typeOf(node), SelfCheckingCircuit.INPUT);
            }
            CHECK.due("first gate", x.typeOf(inputs), SelfCheckingCircuit.NAND);
            CHECK.due("second gate", x.typeOf(inputs + 1), SelfCheckingCircuit.NOT);
            CHECK.due("third gate", x.typeOf(inputs + 2), SelfCheckingCircuit.NOR);
            CHECK.due("behind the last", x.typeOf(inputs + 3), Check.INVALID);
        }
    }

    private static void operandsHaveSmallerNumbers() {
        CHECK.sentence("operands, which are nodes with smaller numbers");
        for (int operand = 2; operand <= 4; operand++) {
            // The gate that is added has the number 3.
            boolean taken = operand < 3;
            int nodes = taken ? 4 : Check.IMPOSSIBLE;
            int node = taken ? 3 : Check.INVALID;
            String start = "i2;g5,0;";
            CHECK.due("NOT " + operand, Check.withText(start + "g5," + operand + ";").configure(), nodes);
            CHECK.due("first " + operand,
                    Check.withText(start + "g0," + operand + ",0;").configure(), nodes);
            CHECK.due("second " + operand,
                    Check.withText(start + "g0,0," + operand + ";").configure(), nodes);
            CHECK.due("NOT " + operand, CHECK.made(start).addGate(5, operand, 0), node);
            CHECK.due("first " + operand, CHECK.made(start).addGate(0, operand, 0), node);
            CHECK.due("second " + operand, CHECK.made(start).addGate(0, 0, operand), node);
        }
    }

    private static void operandsMayBeTheSame() {
        CHECK.sentence("(both may be the same)");
        SelfCheckingCircuit x = CHECK.made("i1;g0,0,0;g1,0,0;g2,0,0;g3,0,0;g4,0,0;o1;o2;o3;o4;o5;");
        // AND and OR give the value itself, NAND and NOR its negation, XOR gives 0.
        CHECK.due("outputWord(0, -1)", x.outputWord(0, -1), 8 + 16);
        CHECK.due("outputWord(1, -1)", x.outputWord(1, -1), 1 + 2);
        for (int type = SelfCheckingCircuit.AND; type <= SelfCheckingCircuit.NOR; type++) {
            CHECK.due("addGate(" + type + ", 5, 5)", x.addGate(type, 5, 5), 6 + type);
        }
    }

    private static void operandsOfEachType() {
        CHECK.sentence("NOT has one operand; AND, OR, XOR, NAND and NOR have two.");
        for (int type = SelfCheckingCircuit.AND; type <= SelfCheckingCircuit.NOT; type++) {
            boolean isNot = type == SelfCheckingCircuit.NOT;
            SelfCheckingCircuit x = CHECK.made("i3;");
            x.addGate(type, 1, 2);
            CHECK.due("operandOf(3, 0), type " + type, x.operandOf(3, 0), 1);
            CHECK.due("operandOf(3, 1), type " + type, x.operandOf(3, 1), isNot ? Check.NONE : 2);
        }
    }

    private static void negations() {
        CHECK.sentence("NAND and NOR are the negations of AND and OR.");
        SelfCheckingCircuit x = CHECK.made("i2;g0,0,1;g3,0,1;g1,0,1;g4,0,1;g2,2,3;g2,4,5;o6;o7;o2;o4;");
        int[] due = {3, 11, 11, 15};
        for (int word = 0; word < 4; word++) {
            CHECK.due("outputWord(" + word + ", -1)", x.outputWord(word, -1), due[word]);
        }
    }

    private static void atMostSixOutputs() {
        CHECK.sentence("The circuit has at most 6 outputs, numbered from 0.");
        for (int outputs = 0; outputs <= 7; outputs++) {
            SelfCheckingCircuit x = Check.withText(Check.sized(2, 0, outputs));
            CHECK.due("configure() with " + outputs + " outputs", x.configure(),
                    outputs <= 6 ? 2 : Check.IMPOSSIBLE);
        }
        for (int outputs = 0; outputs <= 6; outputs++) {
            SelfCheckingCircuit x = CHECK.made(Check.sized(2, 0, outputs));
            CHECK.due("addOutput(1) to " + outputs, x.addOutput(1),
                    outputs < 6 ? outputs + 1 : Check.FULL);
            CHECK.due("outputNode(" + outputs + ")", x.outputNode(outputs),
                    outputs < 6 ? 1 : Check.INVALID);
            CHECK.due("outputNode(0)", x.outputNode(0), outputs == 0 ? 1 : 0);
        }
    }

    private static void severalOutputsOfANode() {
        CHECK.sentence("An output is a node; a node may be several outputs.");
        SelfCheckingCircuit x = CHECK.made("i6;" + "g5,5;".repeat(24) + "o29;".repeat(5));
        CHECK.due("addOutput(29), the sixth", x.addOutput(29), 6);
        CHECK.due("outputWord(0, -1)", x.outputWord(0, -1), 63);
        CHECK.due("outputWord(32, -1)", x.outputWord(32, -1), 0);
    }

    private static void bitsOfInputWords() {
        CHECK.sentence("An input word is a number whose bit k is the value of input k.");
        for (int inputs = 1; inputs <= 6; inputs++) {
            for (int k = 0; k < inputs; k++) {
                SelfCheckingCircuit x = CHECK.made("i" + inputs + ";o" + k + ";");
                int words = 1 << inputs;
                for (int word = 0; word < words; word++) {
                    CHECK.due("input " + k + " of " + word, x.outputWord(word, -1), word >> k & 1);
                }
                CHECK.due("isNormal(" + (words - 1) + ")", x.isNormal(words - 1), 1);
                CHECK.due("isNormal(" + words + ")", x.isNormal(words), Check.INVALID);
            }
        }
    }

    private static void bitsOfOutputWords() {
        CHECK.sentence("An output word is a number whose bit k is the value of output k.");
        for (int outputs = 1; outputs <= 6; outputs++) {
            for (int k = 0; k < outputs; k++) {
                // Only output k is input 1, the others are input 0.
                SelfCheckingCircuit x = CHECK.made("i2;" + "o0;".repeat(k) + "o1;"
                        + "o0;".repeat(outputs - k - 1));
                int all = (1 << outputs) - 1;
                CHECK.due("outputWord(0, -1)", x.outputWord(0, -1), 0);
                CHECK.due("outputWord(2, -1)", x.outputWord(2, -1), 1 << k);
                CHECK.due("outputWord(1, -1)", x.outputWord(1, -1), all - (1 << k));
                CHECK.due("outputWord(3, -1)", x.outputWord(3, -1), all);
            }
        }
    }

    private static void noOutputs() {
        CHECK.sentence("With no outputs, the output word is 0.");
        SelfCheckingCircuit[] all = {
            CHECK.made("i1;"), CHECK.made("i1;g5,0;"), CHECK.made("i1;g5,0;o0;o1;")
        };
        all[2].clearOutputs();
        for (SelfCheckingCircuit x : all) {
            int faults = 2 * x.nodeCount();
            for (int fault = -1; fault < faults; fault++) {
                CHECK.due("outputWord(0, " + fault + ")", x.outputWord(0, fault), 0);
                CHECK.due("outputWord(1, " + fault + ")", x.outputWord(1, fault), 0);
            }
            CHECK.due("isCodeWord(0)", x.isCodeWord(0), 1);
            CHECK.due("isCodeWord(1)", x.isCodeWord(1), Check.INVALID);
            CHECK.due("errorKind(0, 0)", x.errorKind(0, 0), SelfCheckingCircuit.NO_ERROR);
        }
    }

    private static void faultsHoldWhateverInputsSay() {
        CHECK.sentence("The fault 2 * v + b makes the value of node v always b, whatever its inputs say");
        SelfCheckingCircuit x = CHECK.made("i6;" + "g0,0,1;".repeat(23) + "g3,4,5;o0;o5;o6;o29;");
        int[] nodes = {0, 5, 6, 29};
        for (int output = 0; output < nodes.length; output++) {
            int[] words = {0, 1, 3, 31, 32, 63};
            for (int word : words) {
                int low = x.outputWord(word, 2 * nodes[output]);
                int high = x.outputWord(word, 2 * nodes[output] + 1);
                CHECK.due("node " + nodes[output] + " at 0, word " + word, low >> output & 1, 0);
                CHECK.due("node " + nodes[output] + " at 1, word " + word, high >> output & 1, 1);
            }
        }
    }

    private static void faultsAreSeenByAllGates() {
        CHECK.sentence("all gates that use v see b");
        // Every gate uses node 1, a NOT, as its first, its second or its only operand.
        SelfCheckingCircuit x = CHECK.made("i1;g5,0;g0,1,1;g1,1,0;g1,0,1;g5,1;o1;o2;o3;o4;o5;o0;");
        CHECK.due("outputWord(0, 2)", x.outputWord(0, 2), 16);
        CHECK.due("outputWord(1, 2)", x.outputWord(1, 2), 4 + 8 + 16 + 32);
        CHECK.due("outputWord(0, 3)", x.outputWord(0, 3), 1 + 2 + 4 + 8);
        CHECK.due("outputWord(1, 3)", x.outputWord(1, 3), 1 + 2 + 4 + 8 + 32);
    }

    private static void withoutAFault() {
        CHECK.sentence("The number NO_FAULT stands for the circuit without a fault.");
        SelfCheckingCircuit x = CHECK.made("i1;g5,0;o0;o1;");
        CHECK.due("outputWord(0, -1)", x.outputWord(0, SelfCheckingCircuit.NO_FAULT), 2);
        CHECK.due("outputWord(1, -1)", x.outputWord(1, SelfCheckingCircuit.NO_FAULT), 1);
        CHECK.due("outputWord(0, -2)", x.outputWord(0, -2), Check.INVALID);
    }

    private static void faultsOfACircuit() {
        CHECK.sentence("The faults of a circuit are 0 to 2 * (number of nodes) - 1.");
        int[][] sizes = {{1, 0}, {1, 1}, {6, 0}, {1, 24}, {6, 24}};
        for (int[] size : sizes) {
            SelfCheckingCircuit x = CHECK.made(Check.sized(size[0], size[1], 1));
            int last = 2 * (size[0] + size[1]) - 1;
            CHECK.range("outputWord(0, fault)", f -> x.outputWord(0, f), SelfCheckingCircuit.NO_FAULT, last);
            CHECK.range("errorKind(0, fault)", f -> x.errorKind(0, f), 0, last);
            CHECK.range("firstTest", x::firstTest, 0, last);
            CHECK.range("firstUnsafe", x::firstUnsafe, 0, last);
            // A single output is never in the two-rail code, so all faults are exposed.
            CHECK.due("testableFaults()", x.testableFaults(), last + 1);
            CHECK.due("secureFaults()", x.secureFaults(), last + 1);
        }
    }

    private static void statedWordsAreNormal() {
        CHECK.sentence("After configure the normal words are those stated in the circuit text");
        for (int inputs = 1; inputs <= 6; inputs++) {
            int last = (1 << inputs) - 1;
            int[] stated = {0, last};
            for (int word : stated) {
                SelfCheckingCircuit x = CHECK.made("i" + inputs + ";w" + word + ";w" + word + ";");
                for (int other = 0; other <= last; other++) {
                    CHECK.due("isNormal(" + other + ")", x.isNormal(other), other == word ? 1 : 0);
                }
                CHECK.due("setNormal(" + word + ", 1)", x.setNormal(word, 1), 1);
            }
        }
        SelfCheckingCircuit both = CHECK.made("i1;w1;w0;");
        CHECK.due("setNormal(0, 1) with all stated", both.setNormal(0, 1), 2);
    }

    private static void allWordsAreNormal() {
        CHECK.sentence("or all input words if none is stated");
        for (int inputs = 1; inputs <= 6; inputs++) {
            SelfCheckingCircuit x = new SelfCheckingCircuit();
            for (int word = 0; word < 16; word++) {
                x.setNormal(word, 0);
            }
            Check.put(x, "i" + inputs + ";").configure();
            for (int word = 0; word < 1 << inputs; word++) {
                CHECK.due("isNormal(" + word + ")", x.isNormal(word), 1);
            }
            CHECK.due("isNormal behind the last", x.isNormal(1 << inputs), Check.INVALID);
            CHECK.due("setNormal(0, 1)", x.setNormal(0, 1), 1 << inputs);
        }
    }
}
