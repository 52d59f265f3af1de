/** What the tests share: comparing answers, counting the wrong ones, and putting texts. */
final class Check {
    private int right;
    private int wrong;

    void due(String call, long got, long want) {
        if (got == want) {
            right++;
        } else {
            wrong++;
            System.out.println(call + " answered " + got + ", due is " + want);
        }
    }

    /** Puts a new circuit text in place of the old one. */
    static SelfCheckingCircuit put(SelfCheckingCircuit x, String text) {
        x.clearText();
        for (int k = 0; k < text.length(); k++) {
            x.append(text.charAt(k));
        }
        return x;
    }

    /** A new object, configured by the text; a text that is refused is a wrong answer. */
    SelfCheckingCircuit made(String text) {
        SelfCheckingCircuit x = put(new SelfCheckingCircuit(), text);
        if (x.configure() < 0) {
            wrong++;
            System.out.println("configure() refused " + text);
        }
        x.clearText();
        return x;
    }

    /** Ends the test, with exit code 1 if an answer was wrong or none was looked at. */
    void end() {
        System.out.println(right + " answers as due, " + wrong + " not as due");
        if (wrong != 0 || right == 0) {
            System.exit(1);
        }
    }
}
