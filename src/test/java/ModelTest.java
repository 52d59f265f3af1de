import java.util.Random;

/**
 * Runs of random calls, the same ones each time, on the program and on the plain model. A run has
 * at most 512 calls, since nothing is promised about an object behind them.
 */
public final class ModelTest {
    private static final int RUNS = 2000;
    private static final int MOST_CALLS = 512;
    /** Looking at an object at the end of its run takes fewer calls than this. */
    private static final int CALLS_TO_LOOK = 200;
    /** A text of 200 signs, three more that are refused, and what is done with it. */
    private static final int CALLS_OF_TEXT = 210;
    private static final int[] ODD = {
        -1, -2, -101, 6, 7, 24, 30, 31, 60, 64, 65, 200, Integer.MIN_VALUE, Integer.MAX_VALUE
    };
    private static final Check CHECK = new Check();

    private final Random random;
    private final SelfCheckingCircuit program = new SelfCheckingCircuit();
    private final Model model = new Model();
    private final String run;
    private int calls;

    private ModelTest(int seed) {
        random = new Random(seed);
        run = "run " + seed + ": ";
    }

    public static void main(String[] args) {
        for (int seed = 0; seed < RUNS; seed++) {
            ModelTest test = new ModelTest(seed);
            while (test.calls < MOST_CALLS - CALLS_TO_LOOK) {
                test.step();
            }
            if (seed % 2 == 0) {
                test.lookAtCircuit();
            } else {
                test.lookAtWords();
            }
            test.lookAtPast();
            CHECK.due("a run has at most 512 calls", Math.max(test.calls, MOST_CALLS), MOST_CALLS);
        }
        CHECK.end();
    }

    private void due(String call, int got, int want) {
        calls++;
        CHECK.due(run + call, got, want);
    }

    private boolean chance(int percent) {
        return random.nextInt(100) < percent;
    }

    private int below(int limit) {
        return chance(4) ? ODD[random.nextInt(ODD.length)] : random.nextInt(Math.max(1, limit));
    }

    private int node() {
        return below(model.nodeCount());
    }

    private int fault() {
        return below(2 * model.nodeCount());
    }

    private int words() {
        int inputs = 0;
        while (model.typeOf(inputs) == 6) {
            inputs++;
        }
        return 1 << inputs;
    }

    private int outputs() {
        int outputs = 0;
        while (model.outputNode(outputs) >= 0) {
            outputs++;
        }
        return outputs;
    }

    private void step() {
        int kind = random.nextInt(100);
        if (kind < 4 && calls + CALLS_OF_TEXT <= MOST_CALLS - CALLS_TO_LOOK) {
            newText();
        } else if (kind < 55) {
            edit();
        } else if (kind < 80) {
            look();
        } else {
            analyse();
        }
    }

    private void newText() {
        due("clearText()", program.clearText(), model.clearText());
        String text = randomText();
        for (int k = 0; k < text.length(); k++) {
            int c = text.charAt(k);
            due("append(" + c + ")", program.append(c), model.append(c));
        }
        due("firstError() of " + text, program.firstError(), model.firstError());
        due("errorReason() of " + text, program.errorReason(), model.errorReason());
        due("configure() by " + text, program.configure(), model.configure());
    }

    private String randomText() {
        int inputs = 1 + random.nextInt(6);
        StringBuilder text = new StringBuilder("i").append(inputs).append(';');
        int nodes = inputs;
        int statements = random.nextInt(chance(20) ? 60 : 20);
        for (int k = 0; k < statements; k++) {
            int kind = random.nextInt(10);
            if (kind < 6) {
                int type = random.nextInt(6);
                text.append('g').append(type).append(',').append(random.nextInt(nodes));
                text.append(type == 5 ? "" : "," + random.nextInt(nodes));
                nodes++;
            } else if (kind < 8) {
                text.append('o').append(random.nextInt(nodes));
            } else {
                text.append('w').append(random.nextInt(1 << inputs));
            }
            text.append(';');
        }
        String signs = "igow0123456789,;x ~";
        for (int k = chance(50) ? 0 : random.nextInt(3); k > 0; k--) {
            int at = random.nextInt(text.length());
            char sign = signs.charAt(random.nextInt(signs.length()));
            switch (random.nextInt(3)) {
                case 0 -> text.setCharAt(at, sign);
                case 1 -> text.insert(at, sign);
                default -> text.deleteCharAt(text.length() > 1 ? at : 0).append(';');
            }
        }
        // A text that is cut would nearly always lack its last semicolon.
        return text.length() > 200 && chance(80)
                ? text.substring(0, text.lastIndexOf(";", 199) + 1)
                : text.substring(0, Math.min(text.length(), 203));
    }

    private void edit() {
        int a = node();
        int b = node();
        int c = node();
        int d = node();
        int type = below(6);
        int word = below(words());
        int flag = below(2);
        int code = below(4);
        int weight = below(7);
        String nodes = "(" + a + ", " + b + ", " + c + ", " + d + ")";
        switch (random.nextInt(16)) {
            case 0, 1, 2 -> due("addGate(" + type + ", " + a + ", " + b + ")",
                    program.addGate(type, a, b), model.addGate(type, a, b));
            case 3 -> due("addTwoRailCell" + nodes,
                    program.addTwoRailCell(a, b, c, d), model.addTwoRailCell(a, b, c, d));
            case 4 -> due("addComparator(" + a + ", " + b + ")",
                    program.addComparator(a, b), model.addComparator(a, b));
            case 5, 6 -> due("removeGate()", program.removeGate(), model.removeGate());
            case 7, 8, 9 -> due("addOutput(" + a + ")", program.addOutput(a), model.addOutput(a));
            case 10 -> due("clearOutputs()", program.clearOutputs(), model.clearOutputs());
            case 11, 12 -> due("setNormal(" + word + ", " + flag + ")",
                    program.setNormal(word, flag), model.setNormal(word, flag));
            case 13 -> due("setCode(" + code + ", " + weight + ")",
                    program.setCode(code, weight), model.setCode(code, weight));
            default -> due("undo()", program.undo(), model.undo());
        }
    }

    private void look() {
        int word = below(words());
        int fault = chance(20) ? -1 : fault();
        int node = node();
        int index = below(2);
        int output = below(outputs() + 1);
        int outputWord = below(1 << outputs());
        switch (random.nextInt(8)) {
            case 0 -> due("nodeCount()", program.nodeCount(), model.nodeCount());
            case 1 -> due("typeOf(" + node + ")", program.typeOf(node), model.typeOf(node));
            case 2 -> due("operandOf(" + node + ", " + index + ")",
                    program.operandOf(node, index), model.operandOf(node, index));
            case 3 -> due("outputNode(" + output + ")",
                    program.outputNode(output), model.outputNode(output));
            case 4 -> due("isNormal(" + word + ")", program.isNormal(word), model.isNormal(word));
            case 5 -> due("outputWord(" + word + ", " + fault + ")",
                    program.outputWord(word, fault), model.outputWord(word, fault));
            case 6 -> due("isCodeWord(" + outputWord + ")",
                    program.isCodeWord(outputWord), model.isCodeWord(outputWord));
            default -> due("errorKind(" + word + ", " + fault + ")",
                    program.errorKind(word, fault), model.errorKind(word, fault));
        }
    }

    private void analyse() {
        int fault = fault();
        int index = below(5);
        switch (random.nextInt(16)) {
            case 0 -> due("testableFaults()", program.testableFaults(), model.testableFaults());
            case 1 -> due("secureFaults()", program.secureFaults(), model.secureFaults());
            case 2 -> due("isUnordered()", program.isUnordered(), model.isUnordered());
            case 3, 4 -> due("greedyTest(" + index + ")",
                    program.greedyTest(index), model.greedyTest(index));
            case 5, 6 -> due("isCodeDisjoint()", program.isCodeDisjoint(), model.isCodeDisjoint());
            case 7, 8, 9, 10 -> due("firstTest(" + fault + ")",
                    program.firstTest(fault), model.firstTest(fault));
            default -> due("firstUnsafe(" + fault + ")",
                    program.firstUnsafe(fault), model.firstUnsafe(fault));
        }
    }

    private void lookAtCircuit() {
        for (int node = 0; node <= model.nodeCount(); node++) {
            due("typeOf(" + node + ")", program.typeOf(node), model.typeOf(node));
            due("operandOf(" + node + ", 0)", program.operandOf(node, 0), model.operandOf(node, 0));
            due("operandOf(" + node + ", 1)", program.operandOf(node, 1), model.operandOf(node, 1));
        }
        for (int output = 0; output <= 6; output++) {
            due("outputNode(" + output + ")", program.outputNode(output), model.outputNode(output));
        }
        for (int word = 0; word <= 64; word++) {
            due("isNormal(" + word + ")", program.isNormal(word), model.isNormal(word));
        }
    }

    private void lookAtWords() {
        for (int word = 0; word <= 64; word++) {
            due("isCodeWord(" + word + ")", program.isCodeWord(word), model.isCodeWord(word));
            int fault = random.nextInt(2 * model.nodeCount());
            due("errorKind(" + word + ", " + fault + ")",
                    program.errorKind(word, fault), model.errorKind(word, fault));
        }
        due("testableFaults()", program.testableFaults(), model.testableFaults());
        due("secureFaults()", program.secureFaults(), model.secureFaults());
        for (int index = 0; index < 3; index++) {
            due("greedyTest(" + index + ")", program.greedyTest(index), model.greedyTest(index));
        }
    }

    /** What undo brings back, until there is nothing more to undo. */
    private void lookAtPast() {
        for (int k = 0; k < 6; k++) {
            due("undo()", program.undo(), model.undo());
            due("nodeCount()", program.nodeCount(), model.nodeCount());
            due("outputWord(1, -1)", program.outputWord(1, -1), model.outputWord(1, -1));
        }
    }
}
