/** The boundary cases of the promises 24 to 30: the analysis. */
public final class AnalysisBoundsTest {
    private static final int ALL_WORDS = SelfCheckingCircuit.ALL_WORDS;
    private static final int CONSTANT_WEIGHT = SelfCheckingCircuit.CONSTANT_WEIGHT;
    private static final Check CHECK = new Check();

    /** Inputs and gates of circuits from the least to the greatest. */
    private static final int[][] SIZES = {{1, 0}, {1, 1}, {6, 0}, {1, 24}, {6, 24}};

    public static void main(String[] args) {
        firstTestAnswersTheLeast();
        firstTestFault();
        firstTestOfNone();
        firstUnsafeAnswersTheLeast();
        firstUnsafeFault();
        firstUnsafeOfNone();
        testableFaults();
        secureFaults();
        isCodeDisjoint();
        isUnordered();
        greedyTestIndex();
        greedyTestOrder();
        greedyTestOfNone();
        manyGreedyTests();
        greedyCountsTheLastFault();
        greedyCountsFaultsAlone();
        greedyForgetsWords();
        CHECK.end();
    }

    private static void firstTestAnswersTheLeast() {
        CHECK.sentence("Promise 24: Returns the least such word");
        int[][] pairs = {{0, 1}, {0, 63}, {30, 31}, {31, 32}, {32, 33}, {62, 63}, {63, 63}};
        for (int[] pair : pairs) {
            // A single output is never in the two-rail code: every normal word exposes.
            SelfCheckingCircuit x = CHECK.made("i6;o5;w" + pair[1] + ";w" + pair[0] + ";");
            CHECK.due("firstTest(0)", x.firstTest(0), pair[0]);
            CHECK.due("firstTest(11)", x.firstTest(11), pair[0]);
        }
        for (int word = 0; word < 64; word++) {
            SelfCheckingCircuit x = CHECK.made("i6;o5;w" + word + ";");
            CHECK.due("firstTest(0) of one word", x.firstTest(0), word);
        }
    }

    private static void firstTestFault() {
        CHECK.sentence("Promise 24: a fault of the circuit; INVALID_ARGUMENT if there is no such fault");
        for (int[] size : SIZES) {
            SelfCheckingCircuit x = CHECK.made(Check.sized(size[0], size[1], 1));
            CHECK.range("firstTest", x::firstTest, 0, 2 * (size[0] + size[1]) - 1);
            // No such fault comes before not testable.
            x.setCode(ALL_WORDS, 0);
            CHECK.range("firstTest of no test", x::firstTest, 0, 2 * (size[0] + size[1]) - 1);
        }
        CHECK.due("NO_FAULT", new SelfCheckingCircuit().firstTest(SelfCheckingCircuit.NO_FAULT), Check.INVALID);
    }

    private static void firstTestOfNone() {
        CHECK.sentence("Promise 24: NOT_FOUND if the fault is not testable");
        SelfCheckingCircuit x = CHECK.made("i1;o0;");
        CHECK.each("firstTest", x::firstTest, 0, 0, 1);
        x.setNormal(0, 0);
        CHECK.each("firstTest without 0", x::firstTest, 1, 0, 1);
        x.setNormal(1, 0);
        CHECK.each("firstTest without a normal word", x::firstTest, Check.NONE, 0, 1);
        x.setNormal(1, 1);
        x.setCode(ALL_WORDS, 0);
        CHECK.each("firstTest when every word is a code word", x::firstTest, Check.NONE, 0, 1);
        x.setCode(CONSTANT_WEIGHT, 2);
        CHECK.each("firstTest when no word is a code word", x::firstTest, 1, 0, 1);
        x.clearOutputs();
        x.setCode(CONSTANT_WEIGHT, 0);
        CHECK.each("firstTest with no outputs", x::firstTest, Check.NONE, 0, 1);
    }

    private static void firstUnsafeAnswersTheLeast() {
        CHECK.sentence("Promise 25: Returns the least such word");
        for (int word = 0; word < 64; word++) {
            SelfCheckingCircuit x = CHECK.made("i6;o5;w" + word + ";w63;");
            x.setCode(ALL_WORDS, 0);
            // Input 5 at 0 changes the words from 32 on, at 1 those before.
            CHECK.due("firstUnsafe(10)", x.firstUnsafe(10), word >= 32 ? word : 63);
            CHECK.due("firstUnsafe(11)", x.firstUnsafe(11), word < 32 ? word : Check.NONE);
        }
    }

    private static void firstUnsafeFault() {
        CHECK.sentence("Promise 25: a fault of the circuit; INVALID_ARGUMENT if there is no such fault");
        for (int[] size : SIZES) {
            SelfCheckingCircuit x = CHECK.made(Check.sized(size[0], size[1], 1));
            // No such fault comes before secure.
            CHECK.range("firstUnsafe of none", x::firstUnsafe, 0, 2 * (size[0] + size[1]) - 1);
            x.setCode(ALL_WORDS, 0);
            CHECK.range("firstUnsafe", x::firstUnsafe, 0, 2 * (size[0] + size[1]) - 1);
        }
        CHECK.due("NO_FAULT", new SelfCheckingCircuit().firstUnsafe(SelfCheckingCircuit.NO_FAULT),
                Check.INVALID);
    }

    private static void firstUnsafeOfNone() {
        CHECK.sentence("Promise 25: NOT_FOUND if the fault is secure");
        SelfCheckingCircuit x = CHECK.made("i1;o0;");
        CHECK.each("firstUnsafe when no word is a code word", x::firstUnsafe, Check.NONE, 0, 1);
        x.setCode(ALL_WORDS, 0);
        CHECK.due("firstUnsafe(0)", x.firstUnsafe(0), 1);
        CHECK.due("firstUnsafe(1)", x.firstUnsafe(1), 0);
        x.setNormal(0, 0);
        CHECK.due("firstUnsafe(1) without 0", x.firstUnsafe(1), Check.NONE);
        x.setNormal(1, 0);
        CHECK.due("firstUnsafe(0) without a normal word", x.firstUnsafe(0), Check.NONE);
        x.setNormal(1, 1);
        x.clearOutputs();
        CHECK.each("firstUnsafe with no outputs", x::firstUnsafe, Check.NONE, 0, 1);
    }

    private static void testableFaults() {
        CHECK.sentence("Promise 26: Returns the number of faults of the circuit that are testable.");
        for (int[] size : SIZES) {
            SelfCheckingCircuit x = CHECK.made(Check.sized(size[0], size[1], 1));
            int faults = 2 * (size[0] + size[1]);
            CHECK.due("all", x.testableFaults(), faults);
            x.setCode(ALL_WORDS, 0);
            CHECK.due("none", x.testableFaults(), 0);
            x.setCode(CONSTANT_WEIGHT, 1);
            // The word 0 has the output 0 without a fault; only input 0 at 1 makes it a code word.
            CHECK.due("all but one that is always in the code", x.testableFaults(), faults - 1);
        }
        SelfCheckingCircuit last = CHECK.made(Check.sized(6, 24, 0) + "o29;w1;");
        last.setCode(CONSTANT_WEIGHT, 0);
        CHECK.due("input 0 at 0 and node 29 at 1", last.testableFaults(), 2);
    }

    private static void secureFaults() {
        CHECK.sentence("Promise 27: Returns the number of faults of the circuit that are secure.");
        for (int[] size : SIZES) {
            SelfCheckingCircuit x = CHECK.made(Check.sized(size[0], size[1], 1));
            int faults = 2 * (size[0] + size[1]);
            CHECK.due("all", x.secureFaults(), faults);
            x.setCode(ALL_WORDS, 0);
            CHECK.due("all but those of input 0", x.secureFaults(), faults - 2);
        }
        SelfCheckingCircuit last = CHECK.made(Check.sized(6, 24, 0) + "o29;w1;");
        last.setCode(ALL_WORDS, 0);
        CHECK.due("all but input 0 at 0 and node 29 at 1", last.secureFaults(), 58);
        SelfCheckingCircuit least = CHECK.made("i1;o0;");
        least.setCode(ALL_WORDS, 0);
        CHECK.due("none", least.secureFaults(), 0);
    }

    private static void isCodeDisjoint() {
        CHECK.sentence("Promise 28: Returns 1 if the circuit is code disjoint, else 0.");
        CHECK.due("the new object", new SelfCheckingCircuit().isCodeDisjoint(), 1);
        for (int word = 0; word < 16; word++) {
            SelfCheckingCircuit x = new SelfCheckingCircuit();
            x.setNormal(word, 1 - x.isNormal(word));
            CHECK.due("but the word " + word, x.isCodeDisjoint(), 0);
        }
        SelfCheckingCircuit none = CHECK.made("i1;");
        CHECK.due("no outputs, all words normal", none.isCodeDisjoint(), 1);
        none.setCode(CONSTANT_WEIGHT, 1);
        CHECK.due("no outputs, no code word", none.isCodeDisjoint(), 0);
        none.setNormal(0, 0);
        none.setNormal(1, 0);
        CHECK.due("no outputs, no code word, no normal word", none.isCodeDisjoint(), 1);
    }

    private static void isUnordered() {
        CHECK.sentence("Promise 29: Returns 1 if the circuit is unordered, else 0.");
        SelfCheckingCircuit x = CHECK.made("i6;o0;o1;o2;o3;o4;o5;w0;");
        CHECK.due("only 0", x.isUnordered(), 1);
        x.setNormal(32, 1);
        CHECK.due("32 covers 0", x.isUnordered(), 0);
        x.setNormal(0, 0);
        x.setNormal(31, 1);
        CHECK.due("31 and 32", x.isUnordered(), 1);
        x.setNormal(63, 1);
        CHECK.due("63 covers both", x.isUnordered(), 0);
        // The output code does not count.
        x.setCode(ALL_WORDS, 0);
        CHECK.due("in another code", x.isUnordered(), 0);
    }

    private static void greedyTestIndex() {
        CHECK.sentence("Promise 30: INVALID_ARGUMENT if index is negative");
        SelfCheckingCircuit[] all = {new SelfCheckingCircuit(), CHECK.made("i1;"), CHECK.made("i6;o0;")};
        for (SelfCheckingCircuit x : all) {
            CHECK.each("greedyTest", x::greedyTest, Check.INVALID, Check.MIN, Check.MIN + 1, -104, -2, -1);
        }
        CHECK.due("greedyTest(0)", all[0].greedyTest(0), 5);
        CHECK.due("greedyTest(0)", all[1].greedyTest(0), Check.NONE);
        CHECK.due("greedyTest(0)", all[2].greedyTest(0), 0);
    }

    private static void greedyTestOrder() {
        CHECK.sentence("Promise 30: 0 for the test that is chosen first, 1 for the next one, and so on");
        SelfCheckingCircuit x = new SelfCheckingCircuit();
        int[] due = {5, 6, 9, 10};
        for (int index = 3; index >= 0; index--) {
            CHECK.due("greedyTest(" + index + ")", x.greedyTest(index), due[index]);
        }
    }

    private static void greedyTestOfNone() {
        CHECK.sentence("Promise 30: NOT_FOUND if there are not so many greedy tests");
        SelfCheckingCircuit x = new SelfCheckingCircuit();
        CHECK.each("greedyTest of 4", x::greedyTest, Check.NONE, 4, 5, 31, 32, 59, 60, 63, 64, Check.MAX);
        x.setCode(ALL_WORDS, 0);
        CHECK.each("greedyTest of none", x::greedyTest, Check.NONE, 0, 1, Check.MAX);
        SelfCheckingCircuit empty = CHECK.made("i1;");
        CHECK.each("greedyTest with no outputs", empty::greedyTest, Check.NONE, 0, 1, Check.MAX);
    }

    /** Each word alone exposes that its product is stuck at 0, so every word is a greedy test. */
    private static void manyGreedyTests() {
        CHECK.sentence("Promise 30: and so on (up to the last of many)");
        SelfCheckingCircuit x = CHECK.made(DECODER);
        x.setCode(CONSTANT_WEIGHT, 1);
        Model model = new Model();
        for (int k = 0; k < DECODER.length(); k++) {
            model.append(DECODER.charAt(k));
        }
        model.configure();
        model.setCode(CONSTANT_WEIGHT, 1);
        int tests = 0;
        while (model.greedyTest(tests) != Check.NONE) {
            CHECK.due("greedyTest(" + tests + ")", x.greedyTest(tests), model.greedyTest(tests));
            tests++;
        }
        CHECK.due("greedyTest(" + tests + ")", x.greedyTest(tests), Check.NONE);
        CHECK.due("there are at least eight", tests >= 8 ? 1 : 0, 1);
    }

    /** Eight products of three inputs, gathered into one output that is 1 for every word. */
    private static final String DECODER = "i3;g5,0;g5,1;g5,2;"
            + "g0,3,4;g0,0,4;g0,3,1;g0,0,1;"
            + "g0,6,5;g0,7,5;g0,8,5;g0,9,5;g0,6,2;g0,7,2;g0,8,2;g0,9,2;"
            + "g1,10,11;g1,12,13;g1,14,15;g1,16,17;g1,18,19;g1,20,21;g1,22,23;o24;";

    private static void greedyCountsTheLastFault() {
        CHECK.sentence("a testable fault that no chosen word exposes (with 60 faults)");
        // Outputs 0 and 29 are a pair, and so are 1 and 13: 1 exposes the faults 26 and 59,
        // 2 the faults 27 and 58, which are 32 apart from the former.
        SelfCheckingCircuit x = CHECK.made("i6;" + "g5,1;".repeat(23) + "g5,0;o0;o29;o1;o13;w1;w2;");
        CHECK.due("testableFaults()", x.testableFaults(), 4);
        CHECK.due("greedyTest(0)", x.greedyTest(0), 1);
        CHECK.due("greedyTest(1)", x.greedyTest(1), 2);
        CHECK.due("greedyTest(2)", x.greedyTest(2), Check.NONE);
        // Of the pair 0 and 29 alone, 62 exposes only the fault 58 and 63 only the fault 59.
        SelfCheckingCircuit y = CHECK.made("i6;" + "g5,1;".repeat(23) + "g5,0;o0;o29;w62;w63;");
        CHECK.due("testableFaults()", y.testableFaults(), 2);
        CHECK.due("greedyTest(0)", y.greedyTest(0), 62);
        CHECK.due("greedyTest(1)", y.greedyTest(1), 63);
        CHECK.due("greedyTest(2)", y.greedyTest(2), Check.NONE);
    }

    private static void greedyCountsFaultsAlone() {
        CHECK.sentence("as long as there is a testable fault (NO_FAULT and the number behind are none)");
        // 1 exposes the faults 0 and 3, and 3, which is no code word anyway, the faults 1 and 3.
        SelfCheckingCircuit x = CHECK.made("i2;o0;o1;w1;w3;");
        CHECK.due("testableFaults()", x.testableFaults(), 3);
        CHECK.due("greedyTest(0)", x.greedyTest(0), 1);
        CHECK.due("greedyTest(1)", x.greedyTest(1), 3);
        CHECK.due("greedyTest(2)", x.greedyTest(2), Check.NONE);
    }

    private static void greedyForgetsWords() {
        CHECK.sentence("the normal word that exposes the most (a word that is no longer normal is none)");
        int[][] pairs = {{0, 1}, {0, 63}, {31, 32}, {62, 63}};
        for (int[] pair : pairs) {
            SelfCheckingCircuit x = CHECK.made("i6;o0;w" + pair[0] + ";w" + pair[1] + ";");
            CHECK.due("greedyTest(0)", x.greedyTest(0), pair[0]);
            x.setNormal(pair[0], 0);
            CHECK.due("greedyTest(0) without " + pair[0], x.greedyTest(0), pair[1]);
            x.undo();
            CHECK.due("greedyTest(0) after undo", x.greedyTest(0), pair[0]);
        }
    }
}
