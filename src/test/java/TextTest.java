/** Promises 1 to 6: a new object, append, clearText, firstError, errorReason, configure. */
public final class TextTest {
    private static final Check CHECK = new Check();

    public static void main(String[] args) {
        newObject();
        append();
        clearText();
        badStatements();
        badNumbers();
        outOfRange();
        tooMany();
        orderOfReasons();
        wellFormed();
        configure();
        refusedConfigure();
        configureEndsUndoing();
        CHECK.end();
    }

    /** Promise 1. */
    private static void newObject() {
        SelfCheckingCircuit x = new SelfCheckingCircuit();
        CHECK.due("1: nodeCount()", x.nodeCount(), 10);
        int[][] nodes = {
            {6, -104, -104}, {6, -104, -104}, {6, -104, -104}, {6, -104, -104},
            {0, 0, 2}, {0, 1, 3}, {1, 4, 5}, {0, 0, 3}, {0, 1, 2}, {1, 7, 8}
        };
        for (int node = 0; node < nodes.length; node++) {
            CHECK.due("1: typeOf(" + node + ")", x.typeOf(node), nodes[node][0]);
            CHECK.due("1: operandOf(" + node + ", 0)", x.operandOf(node, 0), nodes[node][1]);
            CHECK.due("1: operandOf(" + node + ", 1)", x.operandOf(node, 1), nodes[node][2]);
        }
        CHECK.due("1: outputNode(0)", x.outputNode(0), 6);
        CHECK.due("1: outputNode(1)", x.outputNode(1), 9);
        CHECK.due("1: outputNode(2)", x.outputNode(2), -101);
        for (int word = 0; word < 16; word++) {
            boolean normal = word == 5 || word == 6 || word == 9 || word == 10;
            CHECK.due("1: isNormal(" + word + ")", x.isNormal(word), normal ? 1 : 0);
        }
        CHECK.due("1: isNormal(16)", x.isNormal(16), -101);
        CHECK.due("1: undo()", x.undo(), -102);
        CHECK.due("1: firstError()", x.firstError(), -104);
        CHECK.due("1: configure()", x.configure(), -102);
        CHECK.due("1: clearText()", x.clearText(), 0);
        CHECK.due("1: setCode(3, 0)", x.setCode(3, 0), 1);
        newObjectHasTwoRail();
    }

    /** The weight 0 can't be seen: TWO_RAIL does not use it, and setCode sets it anew. */
    private static void newObjectHasTwoRail() {
        SelfCheckingCircuit x = new SelfCheckingCircuit();
        int[] inTwoRail = {0, 1, 1, 0};
        for (int word = 0; word < 4; word++) {
            CHECK.due("1: isCodeWord(" + word + ")", x.isCodeWord(word), inTwoRail[word]);
        }
    }

    /** Promise 2. */
    private static void append() {
        SelfCheckingCircuit x = new SelfCheckingCircuit();
        int[] refused = {31, 127, 0, -1, 10, 255, Integer.MAX_VALUE, Integer.MIN_VALUE, 65536 + 65};
        for (int character : refused) {
            CHECK.due("2: append(" + character + ")", x.append(character), -101);
        }
        CHECK.due("2: append(32)", x.append(32), 1);
        CHECK.due("2: append(126)", x.append(126), 2);
        for (int k = 3; k <= 200; k++) {
            CHECK.due("2: append('w') as number " + k, x.append('w'), k);
        }
        CHECK.due("2: append(32) when full", x.append(32), -103);
        CHECK.due("2: append(31) when full", x.append(31), -101);
        CHECK.due("2: clearText() when full", x.clearText(), 200);
        CHECK.due("2: append('i') after clearText", x.append('i'), 1);
    }

    /** Promise 3. */
    private static void clearText() {
        SelfCheckingCircuit x = new SelfCheckingCircuit();
        Check.put(x, "i2;zz");
        CHECK.due("3: firstError()", x.firstError(), 3);
        CHECK.due("3: clearText()", x.clearText(), 5);
        CHECK.due("3: clearText() again", x.clearText(), 0);
        CHECK.due("3: firstError() of no text", x.firstError(), -104);
        CHECK.due("3: nodeCount() stays", x.nodeCount(), 10);
        x.append('i');
        CHECK.due("3: errorReason() sees nothing of the old text", x.errorReason(), 2);
    }

    private static void malformed(String text, int index, int reason) {
        SelfCheckingCircuit x = Check.put(new SelfCheckingCircuit(), text);
        CHECK.due("4: firstError() of " + text, x.firstError(), index);
        CHECK.due("5: errorReason() of " + text, x.errorReason(), reason);
        CHECK.due("6: configure() by " + text, x.configure(), -102);
        CHECK.due("6: nodeCount() after " + text, x.nodeCount(), 10);
        CHECK.due("6: clearText() after " + text, x.clearText(), text.length());
    }

    private static void badStatements() {
        int reason = SelfCheckingCircuit.BAD_STATEMENT;
        malformed("g0,0,0;", 0, reason);
        malformed("o0;", 0, reason);
        malformed("w0;i2;", 0, reason);
        malformed(";", 0, reason);
        malformed(" i2;", 0, reason);
        malformed("I2;", 0, reason);
        malformed("2", 0, reason);
        malformed("~", 0, reason);
        malformed("i2;i2;", 3, reason);
        malformed("i2;i", 3, reason);
        malformed("i2;o0;i2;", 6, reason);
        malformed("i2;;", 3, reason);
        malformed("i2; o0;", 3, reason);
        malformed("i2;G0,0,0;", 3, reason);
        malformed("i2;o0;x", 6, reason);
        malformed("i2;w0;2;", 6, reason);
    }

    private static void badNumbers() {
        int reason = SelfCheckingCircuit.BAD_NUMBER;
        malformed("i", 0, reason);
        malformed("i;", 0, reason);
        malformed("i2", 0, reason);
        malformed("i12", 0, reason);
        malformed("i002;", 0, reason);
        malformed("i2,1;", 0, reason);
        malformed("i2,", 0, reason);
        malformed("i 2;", 0, reason);
        malformed("i2 ;", 0, reason);
        malformed("i+2;", 0, reason);
        malformed("i-2;", 0, reason);
        malformed("i/;", 0, reason);
        malformed("i:;", 0, reason);
        malformed("i2/;", 0, reason);
        malformed("i2:;", 0, reason);
        malformed("i2o0;", 0, reason);
        malformed("i2;g", 3, reason);
        malformed("i2;g;", 3, reason);
        malformed("i2;g5", 3, reason);
        malformed("i2;g5;", 3, reason);
        malformed("i2;g5,", 3, reason);
        malformed("i2;g5,;", 3, reason);
        malformed("i2;g5,0", 3, reason);
        malformed("i2;g0,0,", 3, reason);
        malformed("i2;g0,0,;", 3, reason);
        malformed("i2;g0,0,1", 3, reason);
        malformed("i2;g0,0,1,", 3, reason);
        malformed("i2;g0,0,1,1;", 3, reason);
        malformed("i2;g0,,1;", 3, reason);
        malformed("i2;g,0,1;", 3, reason);
        malformed("i2;g000,0,1;", 3, reason);
        malformed("i2;g0,000,1;", 3, reason);
        malformed("i2;g0,0,001;", 3, reason);
        malformed("i2;g0.0.1;", 3, reason);
        malformed("i2;o", 3, reason);
        malformed("i2;o;", 3, reason);
        malformed("i2;o0,1;", 3, reason);
        malformed("i2;o000;", 3, reason);
        malformed("i2;w", 3, reason);
        malformed("i2;w;", 3, reason);
        malformed("i2;w0,1;", 3, reason);
        malformed("i2;w100;", 3, reason);
        malformed("i2;o0;o1;w3", 9, reason);
    }

    private static void outOfRange() {
        int reason = SelfCheckingCircuit.OUT_OF_RANGE;
        malformed("i0;", 0, reason);
        malformed("i00;", 0, reason);
        malformed("i7;", 0, reason);
        malformed("i99;", 0, reason);
        malformed("i2;g0,0;", 3, reason);
        malformed("i2;g4,0;", 3, reason);
        malformed("i2;g6,0;", 3, reason);
        malformed("i2;g5,0,1;", 3, reason);
        malformed("i2;g6,0,1;", 3, reason);
        malformed("i2;g7,0,1;", 3, reason);
        malformed("i2;g99,0,1;", 3, reason);
        malformed("i2;g5,2;", 3, reason);
        malformed("i2;g0,2,0;", 3, reason);
        malformed("i2;g0,0,2;", 3, reason);
        malformed("i2;g0,0,1;g0,0,3;", 10, reason);
        malformed("i2;o2;g0,0,1;", 3, reason);
        malformed("i2;o2;", 3, reason);
        malformed("i1;w2;", 3, reason);
        malformed("i2;w4;", 3, reason);
        malformed("i5;w32;", 3, reason);
        malformed("i6;w64;", 3, reason);
        malformed("i6;w99;", 3, reason);
    }

    private static void tooMany() {
        int reason = SelfCheckingCircuit.TOO_MANY;
        malformed("i2;" + "o1;".repeat(7), 21, reason);
        malformed("i1;" + "g5,0;".repeat(25), 3 + 5 * 24, reason);
        malformed("i6;" + "g0,5,5;".repeat(25), 3 + 7 * 24, reason);
        malformed("i6;" + "g5,0;".repeat(24) + "o29;" + "g0,29,29;x", 127, reason);
    }

    /** The statement that is first in the text counts, and in it the reason that is first. */
    private static void orderOfReasons() {
        malformed("g9,9", 0, SelfCheckingCircuit.BAD_STATEMENT);
        malformed("i2;i99", 3, SelfCheckingCircuit.BAD_STATEMENT);
        malformed("i99", 0, SelfCheckingCircuit.BAD_NUMBER);
        malformed("i2;g9,0,1,", 3, SelfCheckingCircuit.BAD_NUMBER);
        malformed("i2;g9,9,999;", 3, SelfCheckingCircuit.BAD_NUMBER);
        malformed("i2;" + "o1;".repeat(6) + "o2;", 21, SelfCheckingCircuit.OUT_OF_RANGE);
        malformed("i2;" + "o1;".repeat(6) + "o2", 21, SelfCheckingCircuit.BAD_NUMBER);
        malformed("i1;" + "g5,0;".repeat(24) + "g5,25;", 123, SelfCheckingCircuit.OUT_OF_RANGE);
        malformed("i1;" + "g5,0;".repeat(24) + "g5,0,0;", 123, SelfCheckingCircuit.OUT_OF_RANGE);
        malformed("i1;" + "g5,0;".repeat(24) + "g5,0", 123, SelfCheckingCircuit.BAD_NUMBER);
        malformed("i2;w9;x", 3, SelfCheckingCircuit.OUT_OF_RANGE);
        malformed("i2;x;w9;", 3, SelfCheckingCircuit.BAD_STATEMENT);
    }

    private static void taken(String text, int nodes) {
        SelfCheckingCircuit x = Check.put(new SelfCheckingCircuit(), text);
        CHECK.due("4: firstError() of " + text, x.firstError(), -104);
        CHECK.due("5: errorReason() of " + text, x.errorReason(), -104);
        CHECK.due("6: configure() by " + text, x.configure(), nodes);
        CHECK.due("6: nodeCount() by " + text, x.nodeCount(), nodes);
        CHECK.due("6: the text stays, " + text, x.clearText(), text.length());
    }

    private static void wellFormed() {
        for (int inputs = 1; inputs <= 6; inputs++) {
            taken("i" + inputs + ";", inputs);
            taken("i0" + inputs + ";", inputs);
        }
        taken("i6;w63;w00;", 6);
        taken("i1;w1;w1;w0;", 1);
        taken("i1;g5,0;g0,01,1;o2;w1;", 3);
        taken("i2;o1;g03,00,01;o02;g5,2;w3;o3;", 4);
        taken("i6;" + "g5,0;".repeat(24) + "o29;", 30);
        taken("i1;" + "g5,0;".repeat(24) + "o24;".repeat(6) + "w0;", 25);
        String full = "i6;" + "g0,5,5;".repeat(24) + "o29;".repeat(6) + "w63;w";
        taken(full.substring(0, 199), 30);
        malformed(full, 199, SelfCheckingCircuit.BAD_NUMBER);
    }

    /** Promise 6. */
    private static void configure() {
        SelfCheckingCircuit x = new SelfCheckingCircuit();
        x.setCode(SelfCheckingCircuit.BERGER, 1);
        Check.put(x, "i3;g3,2,0;o1;g5,3;o4;o1;w7;w2;");
        CHECK.due("6: configure()", x.configure(), 5);
        CHECK.due("6: typeOf(2)", x.typeOf(2), 6);
        CHECK.due("6: typeOf(3)", x.typeOf(3), 3);
        CHECK.due("6: operandOf(3, 0)", x.operandOf(3, 0), 2);
        CHECK.due("6: operandOf(3, 1)", x.operandOf(3, 1), 0);
        CHECK.due("6: typeOf(4)", x.typeOf(4), 5);
        CHECK.due("6: operandOf(4, 0)", x.operandOf(4, 0), 3);
        CHECK.due("6: operandOf(4, 1)", x.operandOf(4, 1), -104);
        CHECK.due("6: typeOf(5)", x.typeOf(5), -101);
        CHECK.due("6: outputNode(0)", x.outputNode(0), 1);
        CHECK.due("6: outputNode(1)", x.outputNode(1), 4);
        CHECK.due("6: outputNode(2)", x.outputNode(2), 1);
        CHECK.due("6: outputNode(3)", x.outputNode(3), -101);
        for (int word = 0; word < 8; word++) {
            int normal = word == 7 || word == 2 ? 1 : 0;
            CHECK.due("6: isNormal(" + word + ")", x.isNormal(word), normal);
        }
        CHECK.due("6: isNormal(8)", x.isNormal(8), -101);
        CHECK.due("6: the code stays", x.isCodeWord(1), 1);
        CHECK.due("6: the weight stays", x.isCodeWord(7), 0);
        CHECK.due("6: setCode tells the code", x.setCode(0, 0), 3);
        CHECK.due("6: the text can be used again", x.configure(), 5);
        Check.put(x, "i6;");
        x.configure();
        CHECK.due("6: all words are normal", x.setNormal(63, 1), 64);
        CHECK.due("6: no outputs are left", x.outputNode(0), -101);
        Check.put(x, "i1;");
        x.configure();
        CHECK.due("6: both words are normal", x.setNormal(0, 1), 2);
        CHECK.due("6: no word is left", x.isNormal(2), -101);
    }

    private static void refusedConfigure() {
        SelfCheckingCircuit x = new SelfCheckingCircuit();
        x.addOutput(3);
        Check.put(x, "i3;g0,0,1;o3;w1;w");
        CHECK.due("6: configure() refuses", x.configure(), -102);
        CHECK.due("6: nodes stay", x.nodeCount(), 10);
        CHECK.due("6: outputs stay", x.outputNode(2), 3);
        CHECK.due("6: normal words stay", x.isNormal(1), 0);
        CHECK.due("6: edits stay", x.undo(), 0);
        CHECK.due("6: and are undone", x.outputNode(2), -101);
    }

    private static void configureEndsUndoing() {
        SelfCheckingCircuit x = new SelfCheckingCircuit();
        x.addOutput(3);
        Check.put(x, "i3;");
        CHECK.due("6: configure()", x.configure(), 3);
        CHECK.due("15: undo() after configure", x.undo(), -102);
        CHECK.due("6: nodeCount()", x.nodeCount(), 3);
        x.addOutput(2);
        CHECK.due("15: undo() of an edit after configure", x.undo(), 0);
        CHECK.due("15: undo() no further", x.undo(), -102);
    }
}
