/** Promises 21 to 23: outputWord, isCodeWord, errorKind. */
public final class WordsTest {
    private static final int MIN = Integer.MIN_VALUE;
    private static final int MAX = Integer.MAX_VALUE;
    private static final Check CHECK = new Check();

    public static void main(String[] args) {
        functionsOfGates();
        wordsOfInputs();
        faultsAreSeenByAllGates();
        noOutputs();
        outputWordRefuses();
        allWords();
        twoRail();
        constantWeight();
        berger();
        isCodeWordRefuses();
        errorKinds();
        errorKindRefuses();
        CHECK.end();
    }

    /** Promise 21. */
    private static void functionsOfGates() {
        // The answers to the words 0 to 3, that is to (0, 0), (1, 0), (0, 1) and (1, 1).
        int[][] due = {
            {0, 0, 0, 1}, {0, 1, 1, 1}, {0, 1, 1, 0}, {1, 1, 1, 0}, {1, 0, 0, 0}, {1, 0, 1, 0}
        };
        for (int type = 0; type <= 5; type++) {
            SelfCheckingCircuit x = CHECK.made("i2;");
            x.addGate(type, 0, 1);
            x.addOutput(2);
            for (int word = 0; word < 4; word++) {
                CHECK.due("21: type " + type + ", outputWord(" + word + ", -1)",
                        x.outputWord(word, -1), due[type][word]);
                CHECK.due("21: outputWord(" + word + ", 4)", x.outputWord(word, 4), 0);
                CHECK.due("21: outputWord(" + word + ", 5)", x.outputWord(word, 5), 1);
                for (int input = 0; input < 2; input++) {
                    int low = due[type][word & ~(1 << input)];
                    int high = due[type][word | 1 << input];
                    CHECK.due("21: low input " + input, x.outputWord(word, 2 * input), low);
                    CHECK.due("21: high input " + input, x.outputWord(word, 2 * input + 1), high);
                }
            }
        }
    }

    private static void wordsOfInputs() {
        SelfCheckingCircuit x = CHECK.made("i6;o5;o4;o3;o2;o1;o0;");
        SelfCheckingCircuit y = CHECK.made("i6;o0;o1;o2;o3;o4;o5;w1;");
        for (int word = 0; word < 64; word++) {
            int reversed = Integer.reverse(word) >>> 26;
            CHECK.due("21: outputWord(" + word + ", -1)", x.outputWord(word, -1), reversed);
            CHECK.due("21: outputWord(" + word + ", -1)", y.outputWord(word, -1), word);
            CHECK.due("21: outputWord(" + word + ", 10)", y.outputWord(word, 10), word & 31);
            CHECK.due("21: outputWord(" + word + ", 11)", y.outputWord(word, 11), word | 32);
        }
    }

    private static void faultsAreSeenByAllGates() {
        // Node 1 is NOT input 0, node 2 is node 1 AND node 1, node 3 is node 1 XOR input 0.
        SelfCheckingCircuit x = CHECK.made("i1;g5,0;g0,1,1;g2,1,0;o0;o1;o2;o3;o1;");
        int[][] due = {{30, 9}, {30, 30}, {9, 9}, {0, 9}, {30, 23}, {26, 9}, {30, 13}};
        for (int fault = -1; fault <= 5; fault++) {
            for (int word = 0; word < 2; word++) {
                CHECK.due("21: outputWord(" + word + ", " + fault + ")",
                        x.outputWord(word, fault), due[fault + 1][word]);
            }
        }
        CHECK.due("21: outputWord(0, 6)", x.outputWord(0, 6), 22);
        CHECK.due("21: outputWord(0, 7)", x.outputWord(0, 7), 30);
    }

    private static void noOutputs() {
        SelfCheckingCircuit x = CHECK.made("i2;g0,0,1;");
        for (int fault = -1; fault < 6; fault++) {
            CHECK.due("21: outputWord(3, " + fault + ")", x.outputWord(3, fault), 0);
        }
        CHECK.due("23: errorKind(3, 4)", x.errorKind(3, 4), 0);
    }

    private static void outputWordRefuses() {
        SelfCheckingCircuit x = CHECK.made("i2;g0,0,1;o2;");
        int[][] wrong = {
            {-1, 0}, {4, 0}, {MIN, 0}, {MAX, 0}, {0, -2}, {0, 6}, {0, MIN}, {0, MAX}, {4, -1}
        };
        for (int[] w : wrong) {
            CHECK.due("21: outputWord(" + w[0] + ", " + w[1] + ")", x.outputWord(w[0], w[1]), -101);
        }
        CHECK.due("21: outputWord(3, 5)", x.outputWord(3, 5), 1);
        SelfCheckingCircuit full = CHECK.made("i6;" + "g5,0;".repeat(24) + "o29;");
        CHECK.due("21: outputWord(63, 58)", full.outputWord(63, 58), 0);
        CHECK.due("21: outputWord(63, 59)", full.outputWord(63, 59), 1);
        CHECK.due("21: outputWord(63, 60)", full.outputWord(63, 60), -101);
        CHECK.due("21: outputWord(64, 0)", full.outputWord(64, 0), -101);
    }

    private static SelfCheckingCircuit withOutputs(int outputs, int code, int weight) {
        SelfCheckingCircuit x = CHECK.made("i1;" + "o0;".repeat(outputs));
        x.setCode(code, weight);
        return x;
    }

    /** Looks at all output words: those given are code words, the others are none. */
    private static void codeWords(int outputs, int code, int weight, int... words) {
        SelfCheckingCircuit x = withOutputs(outputs, code, weight);
        for (int word = 0; word < 1 << outputs; word++) {
            int due = 0;
            for (int given : words) {
                due = given == word ? 1 : due;
            }
            CHECK.due("22: " + outputs + " outputs, code " + code + ", weight " + weight
                    + ", isCodeWord(" + word + ")", x.isCodeWord(word), due);
        }
        CHECK.due("22: behind the last word", x.isCodeWord(1 << outputs), -101);
    }

    /** Promise 22. */
    private static void allWords() {
        codeWords(0, 0, 3, 0);
        codeWords(1, 0, 0, 0, 1);
        codeWords(3, 0, 6, 0, 1, 2, 3, 4, 5, 6, 7);
    }

    private static void twoRail() {
        codeWords(0, 1, 3, 0);
        codeWords(1, 1, 0);
        codeWords(2, 1, 6, 1, 2);
        codeWords(3, 1, 0);
        codeWords(4, 1, 0, 5, 6, 9, 10);
        codeWords(5, 1, 0);
        codeWords(6, 1, 0, 21, 22, 25, 26, 37, 38, 41, 42);
    }

    private static void constantWeight() {
        codeWords(0, 2, 0, 0);
        codeWords(0, 2, 1);
        codeWords(1, 2, 0, 0);
        codeWords(1, 2, 1, 1);
        codeWords(1, 2, 2);
        codeWords(3, 2, 1, 1, 2, 4);
        codeWords(3, 2, 2, 3, 5, 6);
        codeWords(3, 2, 3, 7);
        codeWords(3, 2, 4);
        codeWords(4, 2, 2, 3, 5, 6, 9, 10, 12);
        codeWords(6, 2, 0, 0);
        codeWords(6, 2, 4, 15, 23, 27, 29, 30, 39, 43, 45, 46, 51, 53, 54, 57, 58, 60);
        codeWords(6, 2, 5, 31, 47, 55, 59, 61, 62);
        codeWords(6, 2, 6, 63);
    }

    private static void berger() {
        codeWords(0, 3, 0, 0);
        codeWords(0, 3, 1);
        codeWords(1, 3, 0, 0);
        codeWords(1, 3, 1, 1);
        codeWords(1, 3, 2);
        codeWords(2, 3, 1, 1, 2);
        codeWords(2, 3, 2, 3);
        codeWords(3, 3, 0, 0);
        codeWords(3, 3, 1, 1, 2);
        codeWords(3, 3, 2, 3, 5, 6);
        codeWords(3, 3, 4);
        codeWords(4, 3, 2, 3, 5, 6, 8);
        codeWords(5, 3, 3, 7, 11, 13, 14, 17, 18, 20, 24);
        codeWords(6, 3, 1, 1, 2);
        codeWords(6, 3, 5, 31, 47, 55, 59, 61, 62);
        codeWords(6, 3, 6, 63);
        codeWords(5, 3, 6);
    }

    private static void isCodeWordRefuses() {
        for (int outputs = 0; outputs <= 6; outputs++) {
            for (int code = 0; code <= 3; code++) {
                SelfCheckingCircuit x = withOutputs(outputs, code, 0);
                CHECK.due("22: isCodeWord(-1)", x.isCodeWord(-1), -101);
                CHECK.due("22: isCodeWord(MIN)", x.isCodeWord(MIN), -101);
                CHECK.due("22: isCodeWord(MAX)", x.isCodeWord(MAX), -101);
                CHECK.due("22: isCodeWord(64)", x.isCodeWord(64), -101);
            }
        }
    }

    /** Promise 23. */
    private static void errorKinds() {
        // The outputs are input 0, its negation and input 1.
        SelfCheckingCircuit x = CHECK.made("i2;g5,0;o0;o2;o1;w0;");
        int[][] due = {
            {0, 3, 0, 3}, {3, 0, 3, 0}, {0, 0, 2, 2}, {1, 1, 0, 0}, {2, 0, 2, 0}, {0, 1, 0, 1}
        };
        for (int fault = 0; fault < 6; fault++) {
            for (int word = 0; word < 4; word++) {
                CHECK.due("23: errorKind(" + word + ", " + fault + ")",
                        x.errorKind(word, fault), due[fault][word]);
            }
        }
        SelfCheckingCircuit twice = CHECK.made("i1;o0;o0;o0;");
        CHECK.due("23: several bits fall", twice.errorKind(1, 0), 2);
        CHECK.due("23: several bits rise", twice.errorKind(0, 1), 1);
    }

    private static void errorKindRefuses() {
        SelfCheckingCircuit x = CHECK.made("i2;g5,0;o2;");
        int[][] wrong = {
            {-1, 0}, {4, 0}, {MIN, 0}, {MAX, 0}, {0, -1}, {0, -2}, {0, 6}, {0, MIN}, {0, MAX}
        };
        for (int[] w : wrong) {
            CHECK.due("23: errorKind(" + w[0] + ", " + w[1] + ")", x.errorKind(w[0], w[1]), -101);
        }
        CHECK.due("23: errorKind(3, 5)", x.errorKind(3, 5), 1);
    }
}
