import java.util.function.IntUnaryOperator;

/** What the tests share: comparing answers, counting the wrong ones, and putting texts. */
final class Check {
    static final int MIN = Integer.MIN_VALUE;
    static final int MAX = Integer.MAX_VALUE;
    static final int INVALID = SelfCheckingCircuit.INVALID_ARGUMENT;
    static final int IMPOSSIBLE = SelfCheckingCircuit.NOT_POSSIBLE;
    static final int FULL = SelfCheckingCircuit.CAPACITY_EXCEEDED;
    static final int NONE = SelfCheckingCircuit.NOT_FOUND;

    /** The fullest text: 200 signs, 6 inputs, 24 gates, 6 outputs; node 29 is no output. */
    static final String FULL_TEXT = "i6;" + "g0,5,5;".repeat(24) + "o5;".repeat(6) + "w1;w10;w11;";

    private int right;
    private int wrong;
    private int sentences;
    private int answersOfSentence;
    private String sentence = "";

    /** Names the words of the document by which the next answers are due. */
    void sentence(String words) {
        endSentence();
        sentence = words;
        sentences++;
        answersOfSentence = 0;
    }

    private void endSentence() {
        if (!sentence.isEmpty() && answersOfSentence == 0) {
            wrong++;
            System.out.println("no answer was looked at for: " + sentence);
        }
    }

    void due(String call, long got, long want) {
        answersOfSentence++;
        if (got == want) {
            right++;
        } else {
            wrong++;
            System.out.println(call + " answered " + got + ", due is " + want
                    + (sentence.isEmpty() ? "" : ", by: " + sentence));
        }
    }

    /** The call answers the same to each of the arguments. */
    void each(String call, IntUnaryOperator answer, int want, int... arguments) {
        for (int argument : arguments) {
            due(call + " of " + argument, answer.applyAsInt(argument), want);
        }
    }

    /** The call refuses the argument below and above the range, and the least and greatest int. */
    void range(String call, IntUnaryOperator answer, int first, int last) {
        each(call, answer, INVALID, MIN, first - 1, last + 1, MAX);
        int[] inside = {first, last};
        for (int argument : inside) {
            boolean taken = answer.applyAsInt(argument) != INVALID;
            due(call + " takes " + argument, taken ? 1 : 0, 1);
        }
    }

    /** Puts a new circuit text in place of the old one. */
    static SelfCheckingCircuit put(SelfCheckingCircuit x, String text) {
        x.clearText();
        for (int k = 0; k < text.length(); k++) {
            x.append(text.charAt(k));
        }
        return x;
    }

    /** A new object with the text, which is not yet configured by it. */
    static SelfCheckingCircuit withText(String text) {
        return put(new SelfCheckingCircuit(), text);
    }

    /** A new object, configured by the text; a text that is refused is a wrong answer. */
    SelfCheckingCircuit made(String text) {
        SelfCheckingCircuit x = withText(text);
        if (x.configure() < 0) {
            wrong++;
            System.out.println("configure() refused " + text);
        }
        x.clearText();
        return x;
    }

    /** The text of a circuit with so many inputs, gates and outputs, which are all input 0. */
    static String sized(int inputs, int gates, int outputs) {
        return "i" + inputs + ";" + "g5,0;".repeat(gates) + "o0;".repeat(outputs);
    }

    /** Ends the test, with exit code 1 if an answer was wrong or none was looked at. */
    void end() {
        endSentence();
        System.out.println((sentences == 0 ? "" : sentences + " sentences: ")
                + right + " answers as due, " + wrong + " not as due");
        if (wrong != 0 || right == 0) {
            System.exit(1);
        }
    }
}
