import java.util.ArrayList;
import java.util.LinkedHashMap;
import java.util.List;
import java.util.Map;
import java.util.function.Supplier;
import java.util.function.ToIntFunction;

/**
 * "A call that returns an error code changes nothing": every error code of every method, from the
 * least and the fullest states, with a picture of the object before and after.
 */
public final class RefusalTest {
    private static final Check CHECK = new Check();

    /** A state with what the refused calls depend on. */
    private record State(String name, Supplier<SelfCheckingCircuit> maker, int inputs, int gates,
            int outputs) {
        int nodes() {
            return inputs + gates;
        }

        int words() {
            return 1 << inputs;
        }
    }

    private record Call(String name, ToIntFunction<SelfCheckingCircuit> call, int due) { }

    public static void main(String[] args) {
        picturesTellChanges();
        State[] states = {
            new State("new", SelfCheckingCircuit::new, 4, 6, 2),
            new State("least", RefusalTest::least, 1, 0, 0),
            new State("no normal word", RefusalTest::noNormalWord, 1, 0, 0),
            new State("full", RefusalTest::full, 6, 24, 6),
            new State("last gate an output", RefusalTest::lastGateAnOutput, 6, 24, 1),
            new State("malformed text", RefusalTest::malformedText, 2, 1, 1)
        };
        for (State state : states) {
            CHECK.sentence("A call that returns an error code changes nothing. (" + state.name + ")");
            changeNothing(state, argumentsOutOfRange(state));
            changeNothing(state, refusedByState(state.name));
            CHECK.sentence("Calls that only tell something change nothing. (" + state.name + ")");
            changeNothing(state, tellingCalls(state));
        }
        CHECK.end();
    }

    private static SelfCheckingCircuit least() {
        return CHECK.made("i1;");
    }

    private static SelfCheckingCircuit noNormalWord() {
        SelfCheckingCircuit x = CHECK.made("i1;");
        x.setNormal(0, 0);
        x.setNormal(1, 0);
        return x;
    }

    /** 200 signs of text, 24 gates, 6 outputs and five edits to undo, all of them different. */
    private static SelfCheckingCircuit full() {
        SelfCheckingCircuit x = Check.withText(Check.FULL_TEXT);
        x.configure();
        x.setNormal(63, 1);
        x.setCode(SelfCheckingCircuit.BERGER, 4);
        x.setNormal(1, 0);
        x.setCode(SelfCheckingCircuit.CONSTANT_WEIGHT, 3);
        x.removeGate();
        x.addGate(SelfCheckingCircuit.NOT, 28, Check.MAX);
        return x;
    }

    private static SelfCheckingCircuit lastGateAnOutput() {
        SelfCheckingCircuit x = CHECK.made(Check.sized(6, 24, 0));
        x.addOutput(29);
        return x;
    }

    private static SelfCheckingCircuit malformedText() {
        SelfCheckingCircuit x = CHECK.made("i2;g0,0,1;o0;w3;");
        x.clearOutputs();
        x.addOutput(1);
        x.setCode(SelfCheckingCircuit.BERGER, 1);
        return Check.put(x, "i3;g5,2;o3;w1;w8;");
    }

    private static List<Integer> picture(State state, ToIntFunction<SelfCheckingCircuit> call) {
        return Picture.of(() -> {
            SelfCheckingCircuit x = state.maker.get();
            call.applyAsInt(x);
            return x;
        });
    }

    private static void changeNothing(State state, List<Call> calls) {
        List<Integer> before = Picture.of(state.maker);
        for (Call call : calls) {
            CHECK.due(call.name, call.call.applyAsInt(state.maker.get()), call.due);
            boolean same = picture(state, call.call).equals(before);
            CHECK.due(call.name + " changes nothing", same ? 1 : 0, 1);
        }
    }

    /** The pictures would be of no use if they were the same after a change. */
    private static void picturesTellChanges() {
        CHECK.sentence("(a picture tells every change)");
        State state = new State("new", SelfCheckingCircuit::new, 4, 6, 2);
        Map<String, ToIntFunction<SelfCheckingCircuit>> changes = new LinkedHashMap<>();
        changes.put("append", x -> x.append('i'));
        changes.put("configure", x -> Check.put(x, "i4;").configure());
        changes.put("addGate", x -> x.addGate(5, 0, 0));
        changes.put("addTwoRailCell", x -> x.addTwoRailCell(0, 1, 2, 3));
        changes.put("addComparator", x -> x.addComparator(0, 1));
        changes.put("addOutput", x -> x.addOutput(0));
        changes.put("clearOutputs", SelfCheckingCircuit::clearOutputs);
        changes.put("setNormal", x -> x.setNormal(15, 1));
        changes.put("setCode", x -> x.setCode(0, 0));
        changes.put("an edit that leaves everything", x -> x.setCode(1, 0));
        changes.put("the weight", x -> x.setCode(2, 5));
        List<Integer> before = Picture.of(state.maker);
        List<List<Integer>> seen = new ArrayList<>();
        changes.forEach((name, change) -> {
            List<Integer> after = picture(state, change);
            CHECK.due("the picture tells " + name, after.equals(before) ? 1 : 0, 0);
            CHECK.due(name + " differs from the others", seen.contains(after) ? 1 : 0, 0);
            seen.add(after);
        });
        CHECK.due("undo() brings the same picture",
                picture(state, x -> x.addOutput(0) + x.undo()).equals(before) ? 1 : 0, 1);
        State full = new State("full", RefusalTest::full, 6, 24, 6);
        List<Integer> ofFull = Picture.of(full.maker);
        CHECK.due("the picture tells undo", picture(full, SelfCheckingCircuit::undo).equals(ofFull) ? 1 : 0, 0);
        CHECK.due("and clearText", picture(full, SelfCheckingCircuit::clearText).equals(ofFull) ? 1 : 0, 0);
        CHECK.due("and the oldest edit", picture(full, x -> x.setCode(2, 3)).equals(ofFull) ? 1 : 0, 0);
    }

    private static int[] outside(int first, int last) {
        return new int[] {Check.MIN, first - 1, last + 1, Check.MAX};
    }

    private static List<Call> argumentsOutOfRange(State state) {
        List<Call> calls = new ArrayList<>();
        addTextCalls(calls);
        addNodeCalls(calls, state.nodes() - 1);
        addWordCalls(calls, state);
        addFaultCalls(calls, 2 * state.nodes() - 1);
        addCodeCalls(calls);
        for (int output : outside(0, state.outputs - 1)) {
            add(calls, "outputNode(" + output + ")", x -> x.outputNode(output));
        }
        for (int word : outside(0, (1 << state.outputs) - 1)) {
            add(calls, "isCodeWord(" + word + ")", x -> x.isCodeWord(word));
        }
        add(calls, "greedyTest(-1)", x -> x.greedyTest(-1));
        add(calls, "greedyTest(MIN)", x -> x.greedyTest(Check.MIN));
        return calls;
    }

    private static void add(List<Call> calls, String name, ToIntFunction<SelfCheckingCircuit> call) {
        calls.add(new Call(name, call, Check.INVALID));
    }

    private static void addTextCalls(List<Call> calls) {
        for (int character : outside(32, 126)) {
            add(calls, "append(" + character + ")", x -> x.append(character));
        }
    }

    private static void addNodeCalls(List<Call> calls, int last) {
        for (int type : outside(SelfCheckingCircuit.AND, SelfCheckingCircuit.NOT)) {
            add(calls, "addGate(" + type + ", 0, 0)", x -> x.addGate(type, 0, 0));
        }
        for (int node : outside(0, last)) {
            add(calls, "addGate(0, " + node + ", 0)", x -> x.addGate(0, node, 0));
            add(calls, "addGate(0, 0, " + node + ")", x -> x.addGate(0, 0, node));
            add(calls, "addGate(5, " + node + ", 0)", x -> x.addGate(5, node, 0));
            add(calls, "addTwoRailCell(" + node + ", 0, 0, 0)", x -> x.addTwoRailCell(node, 0, 0, 0));
            add(calls, "addTwoRailCell(0, " + node + ", 0, 0)", x -> x.addTwoRailCell(0, node, 0, 0));
            add(calls, "addTwoRailCell(0, 0, " + node + ", 0)", x -> x.addTwoRailCell(0, 0, node, 0));
            add(calls, "addTwoRailCell(0, 0, 0, " + node + ")", x -> x.addTwoRailCell(0, 0, 0, node));
            add(calls, "addComparator(" + node + ", 0)", x -> x.addComparator(node, 0));
            add(calls, "addComparator(0, " + node + ")", x -> x.addComparator(0, node));
            add(calls, "addOutput(" + node + ")", x -> x.addOutput(node));
            add(calls, "typeOf(" + node + ")", x -> x.typeOf(node));
            add(calls, "operandOf(" + node + ", 0)", x -> x.operandOf(node, 0));
        }
        for (int index : outside(0, 1)) {
            add(calls, "operandOf(0, " + index + ")", x -> x.operandOf(0, index));
        }
    }

    private static void addWordCalls(List<Call> calls, State state) {
        for (int word : outside(0, state.words() - 1)) {
            add(calls, "setNormal(" + word + ", 0)", x -> x.setNormal(word, 0));
            add(calls, "setNormal(" + word + ", 1)", x -> x.setNormal(word, 1));
            add(calls, "isNormal(" + word + ")", x -> x.isNormal(word));
            add(calls, "outputWord(" + word + ", -1)", x -> x.outputWord(word, -1));
            add(calls, "errorKind(" + word + ", 0)", x -> x.errorKind(word, 0));
        }
        for (int normal : outside(0, 1)) {
            add(calls, "setNormal(0, " + normal + ")", x -> x.setNormal(0, normal));
            add(calls, "setNormal(1, " + normal + ")", x -> x.setNormal(1, normal));
        }
    }

    private static void addFaultCalls(List<Call> calls, int last) {
        for (int fault : outside(SelfCheckingCircuit.NO_FAULT, last)) {
            add(calls, "outputWord(0, " + fault + ")", x -> x.outputWord(0, fault));
        }
        for (int fault : outside(0, last)) {
            add(calls, "errorKind(0, " + fault + ")", x -> x.errorKind(0, fault));
            add(calls, "firstTest(" + fault + ")", x -> x.firstTest(fault));
            add(calls, "firstUnsafe(" + fault + ")", x -> x.firstUnsafe(fault));
        }
    }

    private static void addCodeCalls(List<Call> calls) {
        for (int code : outside(SelfCheckingCircuit.ALL_WORDS, SelfCheckingCircuit.BERGER)) {
            add(calls, "setCode(" + code + ", 1)", x -> x.setCode(code, 1));
        }
        for (int weight : outside(0, 6)) {
            for (int code = SelfCheckingCircuit.ALL_WORDS; code <= SelfCheckingCircuit.BERGER; code++) {
                int fixed = code;
                add(calls, "setCode(" + code + ", " + weight + ")", x -> x.setCode(fixed, weight));
            }
        }
    }

    /** The calls that the state itself refuses: NOT_POSSIBLE, CAPACITY_EXCEEDED and NOT_FOUND. */
    private static List<Call> refusedByState(String name) {
        List<Call> calls = new ArrayList<>();
        switch (name) {
            case "new" -> {
                calls.add(new Call("configure()", SelfCheckingCircuit::configure, Check.IMPOSSIBLE));
                calls.add(new Call("removeGate()", SelfCheckingCircuit::removeGate, Check.IMPOSSIBLE));
                calls.add(new Call("undo()", SelfCheckingCircuit::undo, Check.IMPOSSIBLE));
                calls.add(new Call("firstUnsafe(0)", x -> x.firstUnsafe(0), Check.NONE));
                calls.add(new Call("greedyTest(4)", x -> x.greedyTest(4), Check.NONE));
                calls.add(new Call("operandOf(3, 1)", x -> x.operandOf(3, 1), Check.NONE));
            }
            case "least", "no normal word" -> {
                calls.add(new Call("configure()", SelfCheckingCircuit::configure, Check.IMPOSSIBLE));
                calls.add(new Call("removeGate()", SelfCheckingCircuit::removeGate, Check.NONE));
                calls.add(new Call("firstTest(1)", x -> x.firstTest(1), Check.NONE));
                calls.add(new Call("firstUnsafe(1)", x -> x.firstUnsafe(1), Check.NONE));
                calls.add(new Call("greedyTest(0)", x -> x.greedyTest(0), Check.NONE));
                calls.add(new Call("firstError()", SelfCheckingCircuit::firstError, Check.NONE));
                calls.add(new Call("errorReason()", SelfCheckingCircuit::errorReason, Check.NONE));
                calls.add(new Call("operandOf(0, 0)", x -> x.operandOf(0, 0), Check.NONE));
            }
            case "full" -> {
                calls.add(new Call("append(32)", x -> x.append(32), Check.FULL));
                calls.add(new Call("append(126)", x -> x.append(126), Check.FULL));
                calls.add(new Call("addGate(0, 0, 0)", x -> x.addGate(0, 0, 0), Check.FULL));
                calls.add(new Call("addGate(5, 29, -1)", x -> x.addGate(5, 29, -1), Check.FULL));
                calls.add(new Call("addTwoRailCell", x -> x.addTwoRailCell(0, 1, 2, 29), Check.FULL));
                calls.add(new Call("addComparator", x -> x.addComparator(0, 29), Check.FULL));
                calls.add(new Call("addOutput(29)", x -> x.addOutput(29), Check.FULL));
                calls.add(new Call("operandOf(29, 1)", x -> x.operandOf(29, 1), Check.NONE));
                calls.add(new Call("greedyTest(MAX)", x -> x.greedyTest(Check.MAX), Check.NONE));
            }
            case "last gate an output" ->
                calls.add(new Call("removeGate()", SelfCheckingCircuit::removeGate, Check.IMPOSSIBLE));
            default ->
                calls.add(new Call("configure()", SelfCheckingCircuit::configure, Check.IMPOSSIBLE));
        }
        return calls;
    }

    /** The answers of these are due elsewhere; here they are only to leave no trace. */
    private static List<Call> tellingCalls(State state) {
        int lastWord = state.words() - 1;
        int lastFault = 2 * state.nodes() - 1;
        int lastOutputWord = (1 << state.outputs) - 1;
        Map<String, ToIntFunction<SelfCheckingCircuit>> telling = new LinkedHashMap<>();
        telling.put("firstError()", SelfCheckingCircuit::firstError);
        telling.put("errorReason()", SelfCheckingCircuit::errorReason);
        telling.put("nodeCount()", SelfCheckingCircuit::nodeCount);
        telling.put("typeOf", x -> x.typeOf(state.nodes() - 1));
        telling.put("operandOf", x -> x.operandOf(state.nodes() - 1, 1));
        telling.put("outputNode", x -> x.outputNode(0));
        telling.put("isNormal", x -> x.isNormal(lastWord));
        telling.put("outputWord", x -> x.outputWord(lastWord, lastFault));
        telling.put("isCodeWord", x -> x.isCodeWord(lastOutputWord));
        telling.put("errorKind", x -> x.errorKind(lastWord, lastFault));
        telling.put("firstTest", x -> x.firstTest(lastFault));
        telling.put("firstUnsafe", x -> x.firstUnsafe(lastFault));
        telling.put("testableFaults()", SelfCheckingCircuit::testableFaults);
        telling.put("secureFaults()", SelfCheckingCircuit::secureFaults);
        telling.put("isCodeDisjoint()", SelfCheckingCircuit::isCodeDisjoint);
        telling.put("isUnordered()", SelfCheckingCircuit::isUnordered);
        telling.put("greedyTest", x -> x.greedyTest(0));
        List<Call> calls = new ArrayList<>();
        telling.forEach((name, call) -> {
            SelfCheckingCircuit twice = state.maker.get();
            call.applyAsInt(twice);
            calls.add(new Call(name, call, call.applyAsInt(twice)));
        });
        return calls;
    }
}
