/** Promises 24 to 30: firstTest, firstUnsafe, the counts, the two properties, greedyTest. */
public final class AnalysisTest {
    private static final int[] NEVER = {-1, -2, 60, Integer.MIN_VALUE, Integer.MAX_VALUE};
    private static final Check CHECK = new Check();

    public static void main(String[] args) {
        testsAndUnsafeWords();
        onlyNormalWordsCount();
        wordsBeyondTheCodeExposeAll();
        faultsRefused();
        countsOfFaults();
        codeDisjoint();
        unordered();
        greedy();
        greedyTakesTheLeast();
        greedyTakesTheMost();
        CHECK.end();
    }

    private static void firsts(SelfCheckingCircuit x, int[] tests, int[] unsafe) {
        for (int fault = 0; fault < tests.length; fault++) {
            CHECK.due("24: firstTest(" + fault + ")", x.firstTest(fault), tests[fault]);
            CHECK.due("25: firstUnsafe(" + fault + ")", x.firstUnsafe(fault), unsafe[fault]);
        }
        CHECK.due("24: no fault " + tests.length, x.firstTest(tests.length), -101);
        CHECK.due("25: no fault " + tests.length, x.firstUnsafe(tests.length), -101);
    }

    /** Promises 24 and 25: the outputs are input 0, its negation, input 1 and its negation. */
    private static void testsAndUnsafeWords() {
        SelfCheckingCircuit x = CHECK.made("i2;g5,0;g5,1;o0;o2;o1;o3;");
        // A stuck input stays in the code: unsafe. A stuck gate leaves it: exposed.
        firsts(x, new int[] {-104, -104, -104, -104, 0, 1, 0, 2},
                new int[] {1, 0, 2, 0, -104, -104, -104, -104});
        CHECK.due("26: testableFaults()", x.testableFaults(), 4);
        CHECK.due("27: secureFaults()", x.secureFaults(), 4);
        x.setCode(SelfCheckingCircuit.ALL_WORDS, 0);
        firsts(x, new int[] {-104, -104, -104, -104, -104, -104, -104, -104},
                new int[] {1, 0, 2, 0, 0, 1, 0, 2});
        CHECK.due("26: testableFaults()", x.testableFaults(), 0);
        CHECK.due("27: secureFaults()", x.secureFaults(), 0);
    }

    private static void onlyNormalWordsCount() {
        SelfCheckingCircuit x = CHECK.made("i2;g5,0;g5,1;o0;o2;o1;o3;w3;");
        firsts(x, new int[] {-104, -104, -104, -104, -104, 3, -104, 3},
                new int[] {3, -104, 3, -104, -104, -104, -104, -104});
        CHECK.due("26: testableFaults()", x.testableFaults(), 2);
        CHECK.due("27: secureFaults()", x.secureFaults(), 6);
        x.setNormal(3, 0);
        firsts(x, new int[] {-104, -104, -104, -104, -104, -104, -104, -104},
                new int[] {-104, -104, -104, -104, -104, -104, -104, -104});
        CHECK.due("26: testableFaults() with no normal word", x.testableFaults(), 0);
        CHECK.due("27: secureFaults() with no normal word", x.secureFaults(), 8);
        CHECK.due("29: isUnordered() with no normal word", x.isUnordered(), 1);
        CHECK.due("28: isCodeDisjoint() with no normal word", x.isCodeDisjoint(), 0);
        CHECK.due("30: greedyTest(0) with no normal word", x.greedyTest(0), -104);
    }

    /** The words 62 and 63 need the upper half of the 64 words. */
    private static void wordsBeyondTheCodeExposeAll() {
        SelfCheckingCircuit x = CHECK.made("i6;o5;w62;w63;");
        for (int fault = 0; fault < 12; fault++) {
            CHECK.due("24: one output is never two-rail", x.firstTest(fault), 62);
            CHECK.due("25: and never unsafe", x.firstUnsafe(fault), -104);
        }
        x.setCode(SelfCheckingCircuit.CONSTANT_WEIGHT, 1);
        CHECK.due("24: firstTest(10)", x.firstTest(10), 62);
        CHECK.due("24: firstTest(11)", x.firstTest(11), -104);
        x.setNormal(62, 0);
        CHECK.due("24: firstTest(10)", x.firstTest(10), 63);
        x.setCode(SelfCheckingCircuit.CONSTANT_WEIGHT, 0);
        CHECK.due("25: firstUnsafe(10)", x.firstUnsafe(10), 63);
        CHECK.due("24: firstTest(10)", x.firstTest(10), -104);
    }

    private static void faultsRefused() {
        SelfCheckingCircuit x = CHECK.made("i6;" + "g5,0;".repeat(24) + "o29;");
        for (int fault : NEVER) {
            CHECK.due("24: firstTest(" + fault + ")", x.firstTest(fault), -101);
            CHECK.due("25: firstUnsafe(" + fault + ")", x.firstUnsafe(fault), -101);
        }
        x.setCode(SelfCheckingCircuit.ALL_WORDS, 0);
        CHECK.due("25: firstUnsafe(58)", x.firstUnsafe(58), 0);
        CHECK.due("25: firstUnsafe(59)", x.firstUnsafe(59), 1);
    }

    /** Promises 26 and 27. */
    private static void countsOfFaults() {
        SelfCheckingCircuit x = new SelfCheckingCircuit();
        CHECK.due("26: testableFaults()", x.testableFaults(), 20);
        CHECK.due("27: secureFaults()", x.secureFaults(), 20);
        x.setNormal(10, 0);
        CHECK.due("26: testableFaults()", x.testableFaults(), 19);
        x.setCode(SelfCheckingCircuit.ALL_WORDS, 0);
        CHECK.due("26: testableFaults()", x.testableFaults(), 0);
        CHECK.due("27: secureFaults()", x.secureFaults(), 1);
        SelfCheckingCircuit full = CHECK.made("i6;" + "g5,0;".repeat(24) + "o29;");
        CHECK.due("26: testableFaults() of 60", full.testableFaults(), 60);
        CHECK.due("27: secureFaults() of 60", full.secureFaults(), 60);
        full.clearOutputs();
        CHECK.due("26: testableFaults() with no outputs", full.testableFaults(), 0);
        CHECK.due("27: secureFaults() with no outputs", full.secureFaults(), 60);
    }

    /** Promise 28. */
    private static void codeDisjoint() {
        SelfCheckingCircuit x = CHECK.made("i2;o0;o1;w1;w2;");
        CHECK.due("28: isCodeDisjoint()", x.isCodeDisjoint(), 1);
        x.setNormal(0, 1);
        CHECK.due("28: a normal word without a code word", x.isCodeDisjoint(), 0);
        x.setNormal(0, 0);
        x.setNormal(2, 0);
        CHECK.due("28: another word with a code word", x.isCodeDisjoint(), 0);
        x.undo();
        x.setCode(SelfCheckingCircuit.ALL_WORDS, 0);
        CHECK.due("28: every word is a code word", x.isCodeDisjoint(), 0);
        for (int word = 0; word < 4; word++) {
            x.setNormal(word, 1);
        }
        CHECK.due("28: and every word is normal", x.isCodeDisjoint(), 1);
        for (int inputs = 1; inputs <= 6; inputs++) {
            SelfCheckingCircuit all = CHECK.made("i" + inputs + ";");
            CHECK.due("28: no outputs, all words normal", all.isCodeDisjoint(), 1);
            all.setNormal((1 << inputs) - 1, 0);
            CHECK.due("28: but the last", all.isCodeDisjoint(), 0);
        }
        SelfCheckingCircuit six = CHECK.made("i6;o0;o1;o2;o3;o4;o5;w21;w22;w25;w26;w37;w38;w41;w42;");
        CHECK.due("28: isCodeDisjoint() of 6 inputs", six.isCodeDisjoint(), 1);
        six.setNormal(63, 1);
        CHECK.due("28: isCodeDisjoint() with word 63", six.isCodeDisjoint(), 0);
    }

    /** Promise 29. */
    private static void unordered() {
        SelfCheckingCircuit x = CHECK.made("i3;o0;o1;o2;w1;w2;w4;");
        CHECK.due("29: isUnordered()", x.isUnordered(), 1);
        x.setNormal(6, 1);
        CHECK.due("29: 6 covers 2", x.isUnordered(), 0);
        x.setNormal(2, 0);
        CHECK.due("29: 6 covers 4", x.isUnordered(), 0);
        x.setNormal(4, 0);
        CHECK.due("29: 6 and 1", x.isUnordered(), 1);
        x.setNormal(0, 1);
        CHECK.due("29: all cover 0", x.isUnordered(), 0);
        SelfCheckingCircuit same = CHECK.made("i2;g2,0,0;o2;");
        CHECK.due("29: the same output word of all", same.isUnordered(), 1);
        SelfCheckingCircuit six = CHECK.made("i6;o0;o1;o2;o3;o4;o5;w62;w61;w31;");
        CHECK.due("29: five ones each", six.isUnordered(), 1);
        six.setNormal(63, 1);
        CHECK.due("29: 63 covers all", six.isUnordered(), 0);
        six.clearOutputs();
        CHECK.due("29: no outputs", six.isUnordered(), 1);
    }

    private static void greedyTests(SelfCheckingCircuit x, int... words) {
        for (int k = 0; k < words.length; k++) {
            CHECK.due("30: greedyTest(" + k + ")", x.greedyTest(k), words[k]);
        }
        CHECK.due("30: greedyTest(" + words.length + ")", x.greedyTest(words.length), -104);
        CHECK.due("30: greedyTest(64)", x.greedyTest(64), -104);
        CHECK.due("30: greedyTest(MAX)", x.greedyTest(Integer.MAX_VALUE), -104);
        CHECK.due("30: greedyTest(-1)", x.greedyTest(-1), -101);
        CHECK.due("30: greedyTest(MIN)", x.greedyTest(Integer.MIN_VALUE), -101);
    }

    /** Promise 30. */
    private static void greedy() {
        SelfCheckingCircuit x = new SelfCheckingCircuit();
        greedyTests(x, 5, 6, 9, 10);
        x.setNormal(5, 0);
        CHECK.due("30: greedyTest(0) without 5", x.greedyTest(0), 6);
        x.setCode(SelfCheckingCircuit.ALL_WORDS, 0);
        greedyTests(x);
        x.clearOutputs();
        greedyTests(x);
    }

    private static void greedyTakesTheLeast() {
        // A single output is never in the two-rail code: every word exposes every fault.
        greedyTests(CHECK.made("i6;o0;"), 0);
        greedyTests(CHECK.made("i6;o0;w63;w40;"), 40);
        greedyTests(CHECK.made("i6;" + "g5,0;".repeat(24) + "o29;w63;"), 63);
        // 1 exposes the faults 0 and 3; 3, no code word even without a fault, exposes 1 and 3.
        greedyTests(CHECK.made("i2;o0;o1;w1;w3;"), 1, 3);
    }

    private static void greedyTakesTheMost() {
        // With weight 0 a word exposes the faults that leave a 1 on an output.
        SelfCheckingCircuit x = CHECK.made("i3;o0;o1;o2;w0;w1;w7;");
        x.setCode(SelfCheckingCircuit.CONSTANT_WEIGHT, 0);
        // 0 exposes the faults 1, 3 and 5; 1 all but the fault 0; 7 all of the six.
        greedyTests(x, 7);
        x.setNormal(7, 0);
        greedyTests(x, 1);
        SelfCheckingCircuit y = CHECK.made("i2;o0;o1;w0;w1;w2;");
        y.setCode(SelfCheckingCircuit.CONSTANT_WEIGHT, 0);
        // 0 exposes 1 and 3; 1 exposes 1, 2 and 3; 2 exposes 0, 1 and 3.
        greedyTests(y, 1, 2);
    }
}
