/** The five examples of the document. */
public final class ExamplesTest {
    private static final Check CHECK = new Check();

    public static void main(String[] args) {
        outputWords();
        analysis();
        otherCode();
        errors();
        typeThatDoesNotFit();
        CHECK.end();
    }

    private static void outputWords() {
        SelfCheckingCircuit x = new SelfCheckingCircuit();
        CHECK.due("1: outputWord(5, -1)", x.outputWord(5, -1), 1);
        CHECK.due("1: outputWord(6, -1)", x.outputWord(6, -1), 2);
        CHECK.due("1: outputWord(5, 0)", x.outputWord(5, 0), 0);
        CHECK.due("1: isCodeWord(3)", x.isCodeWord(3), 0);
        CHECK.due("1: firstTest(0)", x.firstTest(0), 5);
        CHECK.due("1: firstUnsafe(0)", x.firstUnsafe(0), -104);
    }

    private static void analysis() {
        SelfCheckingCircuit x = new SelfCheckingCircuit();
        CHECK.due("2: testableFaults()", x.testableFaults(), 20);
        CHECK.due("2: secureFaults()", x.secureFaults(), 20);
        CHECK.due("2: isCodeDisjoint()", x.isCodeDisjoint(), 1);
        CHECK.due("2: isUnordered()", x.isUnordered(), 1);
        CHECK.due("2: greedyTest(0)", x.greedyTest(0), 5);
    }

    private static void otherCode() {
        SelfCheckingCircuit x = new SelfCheckingCircuit();
        CHECK.due("3: errorKind(5, 1)", x.errorKind(5, 1), 0);
        CHECK.due("3: errorKind(5, 13)", x.errorKind(5, 13), 0);
        CHECK.due("3: setCode(3, 1)", x.setCode(3, 1), 1);
        CHECK.due("3: isCodeWord(0)", x.isCodeWord(0), 0);
        CHECK.due("3: isCodeWord(1)", x.isCodeWord(1), 1);
    }

    private static void errors() {
        SelfCheckingCircuit x = new SelfCheckingCircuit();
        CHECK.due("4: addGate(5, 10, 0)", x.addGate(5, 10, 0), -101);
        CHECK.due("4: removeGate()", x.removeGate(), -102);
        CHECK.due("4: operandOf(0, 0)", x.operandOf(0, 0), -104);
        CHECK.due("4: outputWord(16, 0)", x.outputWord(16, 0), -101);
    }

    private static void typeThatDoesNotFit() {
        SelfCheckingCircuit x = new SelfCheckingCircuit();
        CHECK.due("5: clearText()", x.clearText(), 0);
        String text = "i2;g5,0,1;";
        for (int k = 0; k < text.length(); k++) {
            CHECK.due("5: append(" + (int) text.charAt(k) + ")", x.append(text.charAt(k)), k + 1);
        }
        CHECK.due("5: firstError()", x.firstError(), 3);
        CHECK.due("5: errorReason()", x.errorReason(), 3);
        CHECK.due("5: configure()", x.configure(), -102);
    }
}
