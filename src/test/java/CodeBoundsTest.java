/** The boundary cases of the document's description of the output codes and of the analysis. */
public final class CodeBoundsTest {
    private static final int ALL_WORDS = SelfCheckingCircuit.ALL_WORDS;
    private static final int TWO_RAIL = SelfCheckingCircuit.TWO_RAIL;
    private static final int CONSTANT_WEIGHT = SelfCheckingCircuit.CONSTANT_WEIGHT;
    private static final int BERGER = SelfCheckingCircuit.BERGER;
    private static final Check CHECK = new Check();

    public static void main(String[] args) {
        allWords();
        twoRailOfEven();
        twoRailOfOdd();
        constantWeight();
        constantWeightAtItsEnds();
        berger();
        bergerAtItsEnds();
        bergerBeyondTheOutputs();
        weightRange();
        weightOfTheOthers();
        codesInTheAnalysis();
        exposing();
        unsafe();
        testable();
        secure();
        noError();
        rising();
        falling();
        mixed();
        codeDisjoint();
        covering();
        unordered();
        greedyEnds();
        greedyMost();
        greedyLeast();
        CHECK.end();
    }

    /** Tells whether a word of n bits is due to be a code word when the weight is m. */
    private interface Due {
        boolean isCode(int word, int n, int m);
    }

    private static void words(int code, int n, int m, Due due) {
        SelfCheckingCircuit x = CHECK.made(Check.sized(1, 0, n));
        x.setCode(code, m);
        for (int word = 0; word < 1 << n; word++) {
            CHECK.due("isCodeWord(" + word + "), code " + code + ", n " + n + ", m " + m,
                    x.isCodeWord(word), due.isCode(word, n, m) ? 1 : 0);
        }
        CHECK.due("isCodeWord behind the last, n " + n, x.isCodeWord(1 << n), Check.INVALID);
    }

    private static void allWords() {
        CHECK.sentence("ALL_WORDS every output word is a code word");
        for (int n = 0; n <= 6; n++) {
            words(ALL_WORDS, n, 0, (word, bits, m) -> true);
        }
    }

    private static void twoRailOfEven() {
        CHECK.sentence("TWO_RAIL a word is a code word if n is even and, for each k less than n / 2, "
                + "the bits 2k and 2k + 1 are different");
        for (int n = 0; n <= 6; n += 2) {
            words(TWO_RAIL, n, 0, CodeBoundsTest::pairsDiffer);
        }
    }

    private static boolean pairsDiffer(int word, int n, int m) {
        for (int k = 0; k < n / 2; k++) {
            if ((word >> 2 * k & 1) == (word >> 2 * k + 1 & 1)) {
                return false;
            }
        }
        return true;
    }

    private static void twoRailOfOdd() {
        CHECK.sentence("TWO_RAIL a word is a code word if n is even (and n is odd)");
        for (int n = 1; n <= 5; n += 2) {
            words(TWO_RAIL, n, 0, (word, bits, m) -> false);
        }
    }

    private static void constantWeight() {
        CHECK.sentence("CONSTANT_WEIGHT a word is a code word if exactly m of its n bits are 1");
        for (int n = 0; n <= 6; n++) {
            for (int m = 0; m <= 6; m++) {
                words(CONSTANT_WEIGHT, n, m, (word, bits, weight) -> Integer.bitCount(word) == weight);
            }
        }
    }

    private static void constantWeightAtItsEnds() {
        CHECK.sentence("CONSTANT_WEIGHT (with the weight 0, n, n + 1 and 6)");
        for (int n = 0; n <= 6; n++) {
            words(CONSTANT_WEIGHT, n, 0, (word, bits, m) -> word == 0);
            words(CONSTANT_WEIGHT, n, n, (word, bits, m) -> word == (1 << bits) - 1);
            if (n < 6) {
                words(CONSTANT_WEIGHT, n, n + 1, (word, bits, m) -> false);
                words(CONSTANT_WEIGHT, n, 6, (word, bits, m) -> false);
            }
        }
    }

    private static void berger() {
        CHECK.sentence("BERGER a word is a code word if the number that the bits from m on tell equals "
                + "the number of zeros among the bits 0 to m - 1");
        for (int n = 0; n <= 6; n++) {
            for (int m = 0; m <= n; m++) {
                words(BERGER, n, m, (word, bits, weight) ->
                        word >> weight == weight - Integer.bitCount(word & (1 << weight) - 1));
            }
        }
    }

    private static void bergerAtItsEnds() {
        CHECK.sentence("BERGER (with the weight 0 and n)");
        for (int n = 0; n <= 6; n++) {
            words(BERGER, n, 0, (word, bits, m) -> word == 0);
            words(BERGER, n, n, (word, bits, m) -> word == (1 << bits) - 1);
        }
    }

    private static void bergerBeyondTheOutputs() {
        CHECK.sentence("if m is greater than n, no word is a code word");
        for (int n = 0; n <= 5; n++) {
            for (int m = n + 1; m <= 6; m++) {
                words(BERGER, n, m, (word, bits, weight) -> false);
            }
        }
    }

    private static void weightRange() {
        CHECK.sentence("The weight is a number from 0 to 6");
        SelfCheckingCircuit x = new SelfCheckingCircuit();
        for (int code = ALL_WORDS; code <= BERGER; code++) {
            int set = code;
            CHECK.range("setCode(" + code + ", weight)", weight -> x.setCode(set, weight), 0, 6);
        }
    }

    private static void weightOfTheOthers() {
        CHECK.sentence("which only CONSTANT_WEIGHT and BERGER use");
        for (int n = 0; n <= 6; n++) {
            for (int weight = 0; weight <= 6; weight++) {
                words(ALL_WORDS, n, weight, (word, bits, m) -> true);
                words(TWO_RAIL, n, weight, (word, bits, m) -> bits % 2 == 0 && pairsDiffer(word, bits, m));
            }
        }
    }

    private static void codesInTheAnalysis() {
        CHECK.sentence("Let n be the number of outputs. (also when there were more of them before)");
        for (int n = 0; n <= 6; n++) {
            for (int m = 0; m <= 6; m++) {
                analyse(ALL_WORDS, n, m, (word, bits, weight) -> true);
                analyse(TWO_RAIL, n, m, (word, bits, weight) -> bits % 2 == 0 && pairsDiffer(word, bits, 0));
                analyse(CONSTANT_WEIGHT, n, m, (word, bits, weight) -> Integer.bitCount(word) == weight);
                analyse(BERGER, n, m, (word, bits, weight) -> weight <= bits
                        && word >> weight == weight - Integer.bitCount(word & (1 << weight) - 1));
            }
        }
    }

    /** The outputs are the first n inputs, so a fault of an input sets one bit of the word. */
    private static void analyse(int code, int n, int m, Due due) {
        SelfCheckingCircuit x = CHECK.made("i6;o0;o1;o2;o3;o4;o5;");
        // What the other outputs were must leave no trace.
        x.outputWord(63, SelfCheckingCircuit.NO_FAULT);
        x.clearOutputs();
        for (int output = 0; output < n; output++) {
            x.addOutput(output);
        }
        x.setCode(code, m);
        int all = (1 << n) - 1;
        for (int fault = 0; fault < 12; fault++) {
            int test = Check.NONE;
            int unsafe = Check.NONE;
            for (int word = 63; word >= 0; word--) {
                int faulty = (fault % 2 == 1 ? word | 1 << fault / 2 : word & ~(1 << fault / 2)) & all;
                if (!due.isCode(faulty, n, m)) {
                    test = word;
                } else if (faulty != (word & all)) {
                    unsafe = word;
                }
            }
            String state = ", code " + code + ", n " + n + ", m " + m;
            CHECK.due("firstTest(" + fault + ")" + state, x.firstTest(fault), test);
            CHECK.due("firstUnsafe(" + fault + ")" + state, x.firstUnsafe(fault), unsafe);
        }
    }

    /** Outputs input 0 and its negation; a fault of one of them alone leaves the two-rail code. */
    private static SelfCheckingCircuit rails(String normal) {
        return CHECK.made("i1;g5,0;o0;o1;" + normal);
    }

    private static void exposing() {
        CHECK.sentence("A normal word exposes a fault if the output word under the fault is no code word.");
        SelfCheckingCircuit x = rails("");
        CHECK.due("firstTest(2): node 1 at 0 is wrong for 0", x.firstTest(2), 0);
        CHECK.due("firstTest(3): node 1 at 1 is wrong for 1", x.firstTest(3), 1);
        CHECK.due("firstTest(0): both rails change", x.firstTest(0), Check.NONE);
        SelfCheckingCircuit one = rails("w1;");
        CHECK.due("firstTest(2): 0 is not normal", one.firstTest(2), Check.NONE);
        CHECK.due("firstTest(3): 1 is normal", one.firstTest(3), 1);
        // The output word need not change: without the fault it is no code word either.
        SelfCheckingCircuit odd = CHECK.made("i1;o0;");
        CHECK.due("firstTest(0) of no code word at all", odd.firstTest(0), 0);
        CHECK.due("errorKind(0, 0)", odd.errorKind(0, 0), SelfCheckingCircuit.NO_ERROR);
    }

    private static void unsafe() {
        CHECK.sentence("A normal word is unsafe for a fault if the output word under the fault is a code "
                + "word but not the output word without a fault.");
        SelfCheckingCircuit x = rails("");
        CHECK.due("firstUnsafe(0): 1 gives the code word of 0", x.firstUnsafe(0), 1);
        CHECK.due("firstUnsafe(1): 0 gives the code word of 1", x.firstUnsafe(1), 0);
        CHECK.due("firstUnsafe(2): no code word", x.firstUnsafe(2), Check.NONE);
        SelfCheckingCircuit one = rails("w1;");
        CHECK.due("firstUnsafe(0): 1 is normal", one.firstUnsafe(0), 1);
        CHECK.due("firstUnsafe(1): 0 is not normal", one.firstUnsafe(1), Check.NONE);
        // Without the fault, input 0 and itself are no code word; the fault makes it one.
        SelfCheckingCircuit wrong = CHECK.made("i1;g0,0,0;o0;o1;");
        CHECK.due("firstUnsafe(2)", wrong.firstUnsafe(2), 1);
        CHECK.due("firstUnsafe(3)", wrong.firstUnsafe(3), 0);
    }

    private static void testable() {
        CHECK.sentence("A fault is testable if some normal word exposes it");
        SelfCheckingCircuit x = rails("");
        CHECK.due("testableFaults()", x.testableFaults(), 2);
        x.setNormal(0, 0);
        CHECK.due("testableFaults() without 0", x.testableFaults(), 1);
        x.setNormal(1, 0);
        CHECK.due("testableFaults() without a normal word", x.testableFaults(), 0);
        x.setNormal(1, 1);
        x.clearOutputs();
        CHECK.due("testableFaults() without outputs", x.testableFaults(), 0);
        x.setCode(CONSTANT_WEIGHT, 1);
        CHECK.due("testableFaults() without a code word", x.testableFaults(), 4);
    }

    private static void secure() {
        CHECK.sentence("and secure if no normal word is unsafe for it");
        SelfCheckingCircuit x = rails("");
        CHECK.due("secureFaults()", x.secureFaults(), 2);
        x.setNormal(0, 0);
        CHECK.due("secureFaults() without 0", x.secureFaults(), 3);
        x.setNormal(1, 0);
        CHECK.due("secureFaults() without a normal word", x.secureFaults(), 4);
        x.setNormal(1, 1);
        x.clearOutputs();
        CHECK.due("secureFaults() without outputs", x.secureFaults(), 4);
        SelfCheckingCircuit all = rails("");
        all.setCode(ALL_WORDS, 0);
        CHECK.due("secureFaults() when every word is a code word", all.secureFaults(), 0);
    }

    /** The six outputs, with input 0 at both ends and its negation, node 2, in between. */
    private static SelfCheckingCircuit ends() {
        return CHECK.made("i2;g5,0;o0;o2;o1;o1;o1;o0;");
    }

    private static void noError() {
        CHECK.sentence("NO_ERROR if they are equal");
        SelfCheckingCircuit x = ends();
        CHECK.due("errorKind(0, 0)", x.errorKind(0, 0), SelfCheckingCircuit.NO_ERROR);
        CHECK.due("errorKind(3, 1)", x.errorKind(3, 1), SelfCheckingCircuit.NO_ERROR);
        CHECK.due("errorKind(0, 5)", x.errorKind(0, 5), SelfCheckingCircuit.NO_ERROR);
        x.clearOutputs();
        CHECK.due("errorKind(1, 0) without outputs", x.errorKind(1, 0), SelfCheckingCircuit.NO_ERROR);
    }

    private static void rising() {
        CHECK.sentence("RISING if some bits change from 0 to 1 and none from 1 to 0");
        SelfCheckingCircuit x = ends();
        CHECK.due("errorKind(1, 5), one bit", x.errorKind(1, 5), SelfCheckingCircuit.RISING);
        CHECK.due("errorKind(1, 3), three bits", x.errorKind(1, 3), SelfCheckingCircuit.RISING);
        SelfCheckingCircuit last = CHECK.made("i2;o0;o0;o0;o0;o0;o1;");
        CHECK.due("errorKind(1, 3), the last bit", last.errorKind(1, 3), SelfCheckingCircuit.RISING);
    }

    private static void falling() {
        CHECK.sentence("FALLING if some bits change from 1 to 0 and none from 0 to 1");
        SelfCheckingCircuit x = ends();
        CHECK.due("errorKind(0, 4), one bit", x.errorKind(0, 4), SelfCheckingCircuit.FALLING);
        CHECK.due("errorKind(2, 2), three bits", x.errorKind(2, 2), SelfCheckingCircuit.FALLING);
        SelfCheckingCircuit last = CHECK.made("i2;o0;o0;o0;o0;o0;o1;");
        CHECK.due("errorKind(2, 2), the last bit", last.errorKind(2, 2), SelfCheckingCircuit.FALLING);
    }

    private static void mixed() {
        CHECK.sentence("MIXED otherwise");
        SelfCheckingCircuit x = ends();
        CHECK.due("errorKind(0, 1)", x.errorKind(0, 1), SelfCheckingCircuit.MIXED);
        CHECK.due("errorKind(1, 0)", x.errorKind(1, 0), SelfCheckingCircuit.MIXED);
        SelfCheckingCircuit far = CHECK.made("i1;g5,0;g0,0,1;o0;o2;o2;o2;o2;o1;");
        CHECK.due("errorKind(0, 1), first and last bit", far.errorKind(0, 1), SelfCheckingCircuit.MIXED);
    }

    private static void codeDisjoint() {
        CHECK.sentence("A circuit is code disjoint if the output word (without a fault) of every normal "
                + "word is a code word and that of every other input word is none.");
        for (int inputs = 1; inputs <= 6; inputs++) {
            int last = (1 << inputs) - 1;
            // Every output word is a code word: all words must be normal, up to the last.
            SelfCheckingCircuit all = CHECK.made("i" + inputs + ";o0;");
            all.setCode(ALL_WORDS, 0);
            CHECK.due("every word normal", all.isCodeDisjoint(), 1);
            all.setNormal(last, 0);
            CHECK.due("but the last", all.isCodeDisjoint(), 0);
            all.undo();
            all.setNormal(0, 0);
            CHECK.due("but the first", all.isCodeDisjoint(), 0);
            // No output word is a code word: no word may be normal.
            SelfCheckingCircuit none = CHECK.made("i" + inputs + ";o0;w" + last + ";");
            CHECK.due("only the last word normal", none.isCodeDisjoint(), 0);
            none.setNormal(last, 0);
            CHECK.due("no word normal", none.isCodeDisjoint(), 1);
            none.setNormal(0, 1);
            CHECK.due("only the first word normal", none.isCodeDisjoint(), 0);
        }
    }

    private static void covering() {
        CHECK.sentence("An output word covers a different one if it has a 1 wherever the other one has a 1.");
        int[] words = {0, 1, 2, 3, 31, 32, 33, 62, 63};
        for (int one : words) {
            for (int other : words) {
                SelfCheckingCircuit x = CHECK.made("i6;o0;o1;o2;o3;o4;o5;w" + one + ";w" + other + ";");
                boolean covers = (one | other) == one || (one | other) == other;
                CHECK.due("isUnordered() of " + one + " and " + other, x.isUnordered(),
                        one == other || !covers ? 1 : 0);
            }
        }
    }

    private static void unordered() {
        CHECK.sentence("A circuit is unordered if, of the output words (without a fault) of all normal "
                + "words, none covers a different one.");
        SelfCheckingCircuit x = CHECK.made("i6;o0;o1;o2;o3;o4;o5;w63;");
        CHECK.due("one normal word", x.isUnordered(), 1);
        x.setNormal(0, 1);
        CHECK.due("63 covers 0", x.isUnordered(), 0);
        x.setNormal(63, 0);
        x.setNormal(0, 0);
        CHECK.due("no normal word", x.isUnordered(), 1);
        CHECK.due("no outputs, the same word of all", CHECK.made("i6;").isUnordered(), 1);
        CHECK.due("one output, both words", CHECK.made("i1;o0;").isUnordered(), 0);
        CHECK.due("two rails, both words", rails("").isUnordered(), 1);
        SelfCheckingCircuit same = CHECK.made("i2;g5,0;o0;o2;");
        CHECK.due("two words of each output word", same.isUnordered(), 1);
    }

    private static void greedyEnds() {
        CHECK.sentence("The greedy tests are chosen as long as there is a testable fault that no chosen "
                + "word exposes");
        SelfCheckingCircuit x = rails("");
        CHECK.due("greedyTest(0)", x.greedyTest(0), 0);
        CHECK.due("greedyTest(1)", x.greedyTest(1), 1);
        CHECK.due("greedyTest(2): all testable faults are exposed", x.greedyTest(2), Check.NONE);
        x.setNormal(0, 0);
        CHECK.due("greedyTest(0) without 0", x.greedyTest(0), 1);
        CHECK.due("greedyTest(1): what only 0 exposes is not testable", x.greedyTest(1), Check.NONE);
        x.setCode(ALL_WORDS, 0);
        CHECK.due("greedyTest(0) with no testable fault", x.greedyTest(0), Check.NONE);
    }

    private static void greedyMost() {
        CHECK.sentence("the normal word that exposes the most such faults is chosen");
        // With the weight 0 a 1 on an output exposes: 0 exposes three faults, 1 five, 7 all six.
        SelfCheckingCircuit x = CHECK.made("i3;o0;o1;o2;w0;w1;w7;");
        x.setCode(CONSTANT_WEIGHT, 0);
        CHECK.due("greedyTest(0)", x.greedyTest(0), 7);
        CHECK.due("greedyTest(1)", x.greedyTest(1), Check.NONE);
        x.setNormal(7, 0);
        CHECK.due("greedyTest(0) without 7", x.greedyTest(0), 1);
        CHECK.due("greedyTest(1): 0 exposes nothing more", x.greedyTest(1), Check.NONE);
        x.setNormal(4, 1);
        CHECK.due("greedyTest(1): 4 exposes the fault 0", x.greedyTest(1), 4);
        CHECK.due("greedyTest(2)", x.greedyTest(2), Check.NONE);
    }

    private static void greedyLeast() {
        CHECK.sentence("the least of several");
        int[][] pairs = {{0, 1}, {0, 63}, {31, 32}, {62, 63}};
        for (int[] pair : pairs) {
            SelfCheckingCircuit x = CHECK.made("i6;o0;w" + pair[1] + ";w" + pair[0] + ";");
            CHECK.due("greedyTest(0) of " + pair[0] + " and " + pair[1], x.greedyTest(0), pair[0]);
            CHECK.due("greedyTest(1)", x.greedyTest(1), Check.NONE);
        }
    }
}
