import java.util.List;

/** The boundary cases of the circuit text and of the promises 1 to 6. */
public final class TextBoundsTest {
    private static final int BAD_STATEMENT = SelfCheckingCircuit.BAD_STATEMENT;
    private static final int BAD_NUMBER = SelfCheckingCircuit.BAD_NUMBER;
    private static final int OUT_OF_RANGE = SelfCheckingCircuit.OUT_OF_RANGE;
    private static final int TOO_MANY = SelfCheckingCircuit.TOO_MANY;
    private static final Check CHECK = new Check();

    public static void main(String[] args) {
        newObjectIsConfigured();
        newObjectHasTwoRail();
        newObjectHasNoText();
        appendRange();
        appendAnswersTheLength();
        appendToAFullText();
        appendOrder();
        clearTextAnswersTheLength();
        clearTextMakesEmpty();
        firstErrorIndex();
        firstErrorOfNone();
        errorReasonOfEach();
        errorReasonAlone();
        errorReasonOfNone();
        configureAnswersTheNodes();
        configureLeavesTheText();
        configureLeavesTheCode();
        configureRefuses();
        textOf200();
        noBlanks();
        lowerCaseLetters();
        digitsOfANumber();
        leadingZeros();
        inputStatementComesFirst();
        inputStatementComesOnce();
        typesWithOneOperand();
        typesWithTwoOperands();
        operandsDecideTheForm();
        missingParts();
        nodesThatDoNotExistYet();
        wordsThatDoNotExist();
        tooManyGates();
        tooManyOutputs();
        statementComesBeforeTheRest();
        numberComesBeforeRange();
        rangeComesBeforeTooMany();
        everyOtherSign();
        CHECK.end();
    }

    private static void reads(String text, int index, int reason) {
        SelfCheckingCircuit x = Check.withText(text);
        CHECK.due("firstError() of " + text, x.firstError(), index);
        CHECK.due("errorReason() of " + text, x.errorReason(), reason);
    }

    private static void malformed(String text, int index, int reason) {
        reads(text, index, reason);
        CHECK.due("configure() by " + text, Check.withText(text).configure(), Check.IMPOSSIBLE);
    }

    private static void taken(String text, int nodes) {
        reads(text, Check.NONE, Check.NONE);
        CHECK.due("configure() by " + text, Check.withText(text).configure(), nodes);
    }

    private static void newObjectIsConfigured() {
        CHECK.sentence("Promise 1: as if it had been configured");
        String text = "i4;g0,0,2;g0,1,3;g1,4,5;g0,0,3;g0,1,2;g1,7,8;o6;o9;w5;w6;w9;w10;";
        List<Integer> due = Picture.of(() -> CHECK.made(text));
        CHECK.due("same picture", Picture.of(SelfCheckingCircuit::new).equals(due) ? 1 : 0, 1);
        CHECK.due("undo()", new SelfCheckingCircuit().undo(), Check.IMPOSSIBLE);
    }

    private static void newObjectHasTwoRail() {
        CHECK.sentence("Promise 1: with the output code TWO_RAIL, the weight 0");
        SelfCheckingCircuit x = new SelfCheckingCircuit();
        CHECK.due("isCodeWord(0)", x.isCodeWord(0), 0);
        CHECK.due("isCodeWord(1)", x.isCodeWord(1), 1);
        CHECK.due("isCodeWord(2)", x.isCodeWord(2), 1);
        CHECK.due("isCodeWord(3)", x.isCodeWord(3), 0);
        CHECK.due("setCode(0, 0)", x.setCode(0, 0), SelfCheckingCircuit.TWO_RAIL);
    }

    private static void newObjectHasNoText() {
        CHECK.sentence("Promise 1: and an empty circuit text");
        CHECK.due("clearText()", new SelfCheckingCircuit().clearText(), 0);
        CHECK.due("append('i')", new SelfCheckingCircuit().append('i'), 1);
        CHECK.due("firstError()", new SelfCheckingCircuit().firstError(), Check.NONE);
        CHECK.due("errorReason()", new SelfCheckingCircuit().errorReason(), Check.NONE);
        CHECK.due("configure()", new SelfCheckingCircuit().configure(), Check.IMPOSSIBLE);
    }

    private static void appendRange() {
        CHECK.sentence("Promise 2: an ASCII code from 32 to 126; INVALID_ARGUMENT if character is out of "
                + "range");
        for (int character = -300; character <= 300; character++) {
            boolean taken = character >= 32 && character <= 126;
            CHECK.due("append(" + character + ")", new SelfCheckingCircuit().append(character),
                    taken ? 1 : Check.INVALID);
        }
        SelfCheckingCircuit x = new SelfCheckingCircuit();
        // The lower 8 or 16 bits of these would be inside the range.
        CHECK.each("append", x::append, Check.INVALID, Check.MIN, Check.MAX, 256 + 105, 65536 + 105,
                Check.MIN + 105, -65536 + 105);
        CHECK.due("clearText()", x.clearText(), 0);
    }

    private static void appendAnswersTheLength() {
        CHECK.sentence("Promise 2: Returns the new length of the text");
        SelfCheckingCircuit x = new SelfCheckingCircuit();
        for (int length = 1; length <= 200; length++) {
            CHECK.due("append(126)", x.append(126), length);
        }
    }

    private static void appendToAFullText() {
        CHECK.sentence("Promise 2: CAPACITY_EXCEEDED if the text already has 200 characters");
        SelfCheckingCircuit x = Check.withText(Check.FULL_TEXT.substring(0, 199));
        CHECK.due("append of number 200", x.append(';'), 200);
        CHECK.each("append to 200", x::append, Check.FULL, 32, 'w', 126);
        CHECK.due("firstError() of the full text", x.firstError(), Check.NONE);
        CHECK.due("clearText()", x.clearText(), 200);
        CHECK.due("append('i') when there is room again", x.append('i'), 1);
    }

    private static void appendOrder() {
        CHECK.sentence("When several error codes apply to a call, the first one named (append)");
        SelfCheckingCircuit x = Check.withText(Check.FULL_TEXT);
        CHECK.each("append to 200", x::append, Check.INVALID, Check.MIN, -1, 31, 127, Check.MAX);
    }

    private static void clearTextAnswersTheLength() {
        CHECK.sentence("Promise 3: Returns the length it had.");
        for (int length = 0; length <= 200; length++) {
            SelfCheckingCircuit x = Check.withText("i".repeat(length));
            CHECK.due("clearText() of " + length, x.clearText(), length);
            CHECK.due("clearText() again", x.clearText(), 0);
        }
    }

    private static void clearTextMakesEmpty() {
        CHECK.sentence("Promise 3: Makes the circuit text empty.");
        SelfCheckingCircuit x = Check.withText("x");
        x.clearText();
        CHECK.due("firstError()", x.firstError(), Check.NONE);
        CHECK.due("errorReason()", x.errorReason(), Check.NONE);
        CHECK.due("configure()", x.configure(), Check.IMPOSSIBLE);
        // The signs of the old text must not stand behind the new, shorter one.
        Check.put(x, "i3;o2;");
        Check.put(x, "i2");
        CHECK.due("firstError() of i2", x.firstError(), 0);
        CHECK.due("errorReason() of i2", x.errorReason(), BAD_NUMBER);
        Check.put(x, "i1;");
        CHECK.due("configure() by i1;", x.configure(), 1);
        CHECK.due("outputNode(0)", x.outputNode(0), Check.INVALID);
    }

    private static void firstErrorIndex() {
        CHECK.sentence("Promise 4: Returns the index (from 0) of its first character");
        malformed("x", 0, BAD_STATEMENT);
        malformed("i7;", 0, OUT_OF_RANGE);
        malformed("i6;x", 3, BAD_STATEMENT);
        malformed("i6;o9;o9;", 3, OUT_OF_RANGE);
        malformed(Check.FULL_TEXT.substring(0, 199), 196, BAD_NUMBER);
        malformed(Check.FULL_TEXT.substring(0, 199) + ",", 196, BAD_NUMBER);
        malformed("i6;" + "w01;".repeat(49) + "x", 199, BAD_STATEMENT);
    }

    private static void firstErrorOfNone() {
        CHECK.sentence("Promise 4: NOT_FOUND if no statement is malformed (an empty text has none)");
        CHECK.due("firstError() of no text", new SelfCheckingCircuit().firstError(), Check.NONE);
        CHECK.due("firstError() of i1;", Check.withText("i1;").firstError(), Check.NONE);
        CHECK.due("firstError() of 200", Check.withText(Check.FULL_TEXT).firstError(), Check.NONE);
    }

    private static void errorReasonOfEach() {
        CHECK.sentence("Promise 5: Returns BAD_STATEMENT, BAD_NUMBER, OUT_OF_RANGE or TOO_MANY");
        malformed("i1;;", 3, BAD_STATEMENT);
        malformed("i1;o;", 3, BAD_NUMBER);
        malformed("i1;o1;", 3, OUT_OF_RANGE);
        malformed(Check.sized(1, 0, 7), 21, TOO_MANY);
    }

    private static void errorReasonAlone() {
        CHECK.sentence("Promise 5: Tells why the first malformed statement is malformed (the first call)");
        CHECK.due("errorReason() of x", Check.withText("x").errorReason(), BAD_STATEMENT);
        SelfCheckingCircuit x = Check.withText("i");
        CHECK.due("errorReason() of i", x.errorReason(), BAD_NUMBER);
        x.append('7');
        x.append(';');
        CHECK.due("errorReason() of i7;", x.errorReason(), OUT_OF_RANGE);
        CHECK.due("firstError() of i7;", x.firstError(), 0);
        Check.put(x, "i6;");
        CHECK.due("errorReason() of i6;", x.errorReason(), Check.NONE);
        x.append('o');
        CHECK.due("errorReason() of i6;o", x.errorReason(), BAD_NUMBER);
        x.clearText();
        CHECK.due("errorReason() of no text", x.errorReason(), Check.NONE);
    }

    private static void errorReasonOfNone() {
        CHECK.sentence("Promise 5: NOT_FOUND if no statement is malformed");
        CHECK.due("errorReason() of no text", new SelfCheckingCircuit().errorReason(), Check.NONE);
        CHECK.due("errorReason() of i1;", Check.withText("i1;").errorReason(), Check.NONE);
        CHECK.due("errorReason() of 200", Check.withText(Check.FULL_TEXT).errorReason(), Check.NONE);
    }

    private static void configureAnswersTheNodes() {
        CHECK.sentence("Promise 6: Returns the number of nodes");
        taken("i1;", 1);
        taken("i6;", 6);
        taken(Check.sized(1, 24, 0), 25);
        taken(Check.sized(6, 24, 6), 30);
    }

    private static void configureLeavesTheText() {
        CHECK.sentence("Promise 6: by the circuit text, which stays as it is");
        SelfCheckingCircuit x = Check.withText("i3;g5,2;o3;");
        CHECK.due("configure()", x.configure(), 4);
        x.clearOutputs();
        CHECK.due("configure() again", x.configure(), 4);
        CHECK.due("outputNode(0)", x.outputNode(0), 3);
        CHECK.due("append('w')", x.append('w'), 12);
        CHECK.due("configure() refused", x.configure(), Check.IMPOSSIBLE);
        CHECK.due("clearText()", x.clearText(), 12);
        SelfCheckingCircuit full = Check.withText(Check.FULL_TEXT);
        CHECK.due("configure() by 200", full.configure(), 30);
        CHECK.due("clearText() of 200", full.clearText(), 200);
    }

    private static void configureLeavesTheCode() {
        CHECK.sentence("Promise 6: The output code and its weight stay as they are.");
        for (int code = 0; code <= 3; code++) {
            for (int weight = 0; weight <= 6; weight++) {
                SelfCheckingCircuit x = CHECK.made(Check.sized(1, 0, 6));
                x.setCode(code, weight);
                int[] before = new int[64];
                for (int word = 0; word < 64; word++) {
                    before[word] = x.isCodeWord(word);
                }
                Check.put(x, Check.sized(2, 1, 6)).configure();
                for (int word = 0; word < 64; word++) {
                    CHECK.due("isCodeWord(" + word + ")", x.isCodeWord(word), before[word]);
                }
                CHECK.due("setCode(0, 0)", x.setCode(0, 0), code);
            }
        }
    }

    private static void configureRefuses() {
        CHECK.sentence("Promise 6: NOT_POSSIBLE if the text is empty or a statement is malformed");
        SelfCheckingCircuit x = new SelfCheckingCircuit();
        CHECK.due("configure() by no text", x.configure(), Check.IMPOSSIBLE);
        String[] texts = {"x", "i", "i7;", "i1;o1;", "i1;o0;w", "i1;" + "o0;".repeat(7), "i1;w1;w2;"};
        for (String text : texts) {
            CHECK.due("configure() by " + text, Check.put(x, text).configure(), Check.IMPOSSIBLE);
            CHECK.due("nodeCount()", x.nodeCount(), 10);
            CHECK.due("outputNode(1)", x.outputNode(1), 9);
            CHECK.due("isNormal(10)", x.isNormal(10), 1);
            CHECK.due("isNormal(1)", x.isNormal(1), 0);
        }
    }

    private static void textOf200() {
        CHECK.sentence("The circuit text has at most 200 characters.");
        SelfCheckingCircuit x = Check.withText(Check.FULL_TEXT);
        CHECK.due("append to 200", x.append(';'), Check.FULL);
        CHECK.due("configure()", x.configure(), 30);
        CHECK.due("isNormal(11), the last statement", x.isNormal(11), 1);
        CHECK.due("setNormal(11, 1)", x.setNormal(11, 1), 3);
    }

    private static void noBlanks() {
        CHECK.sentence("It is a sequence of statements without blanks.");
        String text = "i2;g0,0,1;g5,2;o2;w3;";
        int start = 0;
        for (int at = 0; at <= text.length(); at++) {
            boolean between = at == 0 || text.charAt(at - 1) == ';';
            start = between ? at : start;
            malformed(text.substring(0, at) + " " + text.substring(at), start,
                    between ? BAD_STATEMENT : BAD_NUMBER);
        }
    }

    private static void lowerCaseLetters() {
        CHECK.sentence("BAD_STATEMENT (the letter is none of i, g, o and w)");
        for (char letter = 32; letter <= 126; letter++) {
            reads(letter + "1;", letter == 'i' ? Check.NONE : 0,
                    letter == 'i' ? Check.NONE : BAD_STATEMENT);
            boolean number = letter == 'o' || letter == 'w';
            int reason = number ? Check.NONE : letter == 'g' ? BAD_NUMBER : BAD_STATEMENT;
            reads("i6;" + letter + "1;", number ? Check.NONE : 3, reason);
        }
    }

    /** Each form of a statement, with a gap for one of its numbers. */
    private static final String[][] GAPS = {
        {"", "i", ";"}, {"i6;", "g", ",1;"}, {"i6;", "g5,", ";"}, {"i6;", "g", ",1,1;"},
        {"i6;", "g1,", ",1;"}, {"i6;", "g1,1,", ";"}, {"i6;", "o", ";"}, {"i6;", "w", ";"}
    };

    private static void digitsOfANumber() {
        CHECK.sentence("A number has one or two decimal digits");
        for (String[] gap : GAPS) {
            String[] wrong = {"", "005", "100", "0000", "-1", "+1", "1.", "/", ":", "a", "1a", " 1", "1 "};
            for (String number : wrong) {
                malformed(gap[0] + gap[1] + number + gap[2], gap[0].length(), BAD_NUMBER);
            }
            String[] tooGreat = {"99", "64"};
            for (String number : tooGreat) {
                malformed(gap[0] + gap[1] + number + gap[2], gap[0].length(), OUT_OF_RANGE);
            }
        }
        taken("i6;w63;w10;w9;w0;", 6);
    }

    private static void leadingZeros() {
        CHECK.sentence("leading zeros are allowed");
        for (int number = 1; number <= 6; number++) {
            taken("i0" + number + ";", number);
        }
        taken("i06;g05,05;g00,00,06;g04,07,00;o08;w00;w09;", 9);
        malformed("i00;", 0, OUT_OF_RANGE);
        malformed("i07;", 0, OUT_OF_RANGE);
        SelfCheckingCircuit x = CHECK.made("i06;g05,05;o06;w09;");
        CHECK.due("typeOf(6)", x.typeOf(6), SelfCheckingCircuit.NOT);
        CHECK.due("operandOf(6, 0)", x.operandOf(6, 0), 5);
        CHECK.due("outputNode(0)", x.outputNode(0), 6);
        CHECK.due("isNormal(9)", x.isNormal(9), 1);
    }

    private static void inputStatementComesFirst() {
        CHECK.sentence("BAD_STATEMENT (or the first statement is no i statement)");
        String[] others = {"g5,0;", "g0,0,0;", "o0;", "w0;"};
        for (String other : others) {
            malformed(other, 0, BAD_STATEMENT);
            malformed(other + "i1;", 0, BAD_STATEMENT);
            taken("i1;" + other, other.charAt(0) == 'g' ? 2 : 1);
        }
    }

    private static void inputStatementComesOnce() {
        CHECK.sentence("BAD_STATEMENT (or an i statement is not the first statement)");
        malformed("i1;i1;", 3, BAD_STATEMENT);
        malformed("i1;o0;i1;", 6, BAD_STATEMENT);
        malformed("i1;i2;i3;", 3, BAD_STATEMENT);
        malformed("i6;" + "w01;".repeat(49) + "i", 199, BAD_STATEMENT);
    }

    private static void typesWithOneOperand() {
        CHECK.sentence("gT,A; (T must be NOT)");
        for (int type = 0; type <= 99; type++) {
            String text = "i1;g" + type + ",0;";
            if (type == SelfCheckingCircuit.NOT) {
                taken(text, 2);
            } else {
                malformed(text, 3, OUT_OF_RANGE);
            }
        }
    }

    private static void typesWithTwoOperands() {
        CHECK.sentence("gT,A,B; (T must not be NOT)");
        for (int type = 0; type <= 99; type++) {
            String text = "i1;g" + type + ",0,0;";
            if (type < SelfCheckingCircuit.NOT) {
                taken(text, 2);
            } else {
                malformed(text, 3, OUT_OF_RANGE);
            }
        }
    }

    private static void operandsDecideTheForm() {
        CHECK.sentence("the number of operands decides which form of g is read");
        malformed("i1;g0;", 3, BAD_NUMBER);
        malformed("i1;g5;", 3, BAD_NUMBER);
        malformed("i1;g0,0;", 3, OUT_OF_RANGE);
        malformed("i1;g5,0,0;", 3, OUT_OF_RANGE);
        malformed("i1;g0,0,0,0;", 3, BAD_NUMBER);
        malformed("i1;g5,0,0,0;", 3, BAD_NUMBER);
    }

    private static void missingParts() {
        CHECK.sentence("BAD_NUMBER (a number, a comma or the semicolon is missing)");
        String[] whole = {"i1;", "g5,0;", "g0,0,0;", "o0;", "w0;"};
        for (String statement : whole) {
            String start = statement.charAt(0) == 'i' ? "" : "i1;";
            // The text may end behind each sign of the statement but the last.
            for (int length = 1; length < statement.length(); length++) {
                malformed(start + statement.substring(0, length), start.length(), BAD_NUMBER);
            }
            // Each number and the semicolon may be missing with more behind it.
            for (int gone = 1; gone < statement.length(); gone++) {
                if (statement.charAt(gone) != ',') {
                    malformed(start + statement.substring(0, gone) + statement.substring(gone + 1)
                            + (start.isEmpty() ? "o0;" : "w0;"), start.length(), BAD_NUMBER);
                }
            }
        }
        missingCommas();
    }

    private static void missingCommas() {
        malformed("i1;g5.0;", 3, BAD_NUMBER);
        malformed("i1;g5;0;", 3, BAD_NUMBER);
        malformed("i1;g0,0.0;", 3, BAD_NUMBER);
        malformed("i1;g000,0;", 3, BAD_NUMBER);
        malformed("i1;o0,0;", 3, BAD_NUMBER);
        malformed("i1,1;", 0, BAD_NUMBER);
        malformed("i1;w0,0;", 3, BAD_NUMBER);
        // Without its comma, what were two numbers is one number of two digits.
        malformed("i1;g50;", 3, BAD_NUMBER);
        malformed("i1;g0,00;", 3, OUT_OF_RANGE);
        malformed("i1;g00,0;", 3, OUT_OF_RANGE);
    }

    private static void nodesThatDoNotExistYet() {
        CHECK.sentence("OUT_OF_RANGE (a node that does not exist yet)");
        String start = "i6;" + "g5,0;".repeat(20);
        for (int node = 0; node <= 99; node++) {
            String[] uses = {"g5," + node + ";", "g0," + node + ",0;", "g0,0," + node + ";", "o" + node + ";"};
            for (String use : uses) {
                if (node < 26) {
                    taken(start + use, use.charAt(0) == 'g' ? 27 : 26);
                } else {
                    malformed(start + use + "g5,0;", start.length(), OUT_OF_RANGE);
                }
            }
        }
    }

    private static void wordsThatDoNotExist() {
        CHECK.sentence("OUT_OF_RANGE (an input word that does not exist)");
        for (int inputs = 1; inputs <= 6; inputs++) {
            for (int word = 0; word <= 99; word++) {
                String text = "i" + inputs + ";w" + word + ";";
                if (word < 1 << inputs) {
                    taken(text, inputs);
                } else {
                    malformed(text, 3, OUT_OF_RANGE);
                }
            }
        }
        // A gate more is no input more.
        malformed("i1;g5,0;w2;", 8, OUT_OF_RANGE);
    }

    private static void tooManyGates() {
        CHECK.sentence("TOO_MANY (there would be more than 24 gates)");
        taken(Check.sized(6, 24, 0), 30);
        malformed(Check.sized(6, 25, 0), 3 + 5 * 24, TOO_MANY);
        malformed(Check.sized(1, 24, 0) + "g0,0,0;", 3 + 5 * 24, TOO_MANY);
        malformed(Check.sized(1, 24, 0) + "o0;w0;g5,0;x", 3 + 5 * 24 + 6, TOO_MANY);
    }

    private static void tooManyOutputs() {
        CHECK.sentence("TOO_MANY (there would be more than 6 outputs)");
        taken(Check.sized(1, 0, 6), 1);
        malformed(Check.sized(1, 0, 7), 3 + 3 * 6, TOO_MANY);
        malformed(Check.sized(1, 24, 7), 3 + 5 * 24 + 3 * 6, TOO_MANY);
        malformed(Check.sized(1, 0, 6) + "g5,0;w0;o1;x", 3 + 3 * 6 + 8, TOO_MANY);
    }

    private static void statementComesBeforeTheRest() {
        CHECK.sentence("The reasons are checked in this order: BAD_STATEMENT before the others");
        malformed("x", 0, BAD_STATEMENT);
        malformed("g99,99,", 0, BAD_STATEMENT);
        malformed("o99;", 0, BAD_STATEMENT);
        malformed("i1;i", 3, BAD_STATEMENT);
        malformed("i1;i99;", 3, BAD_STATEMENT);
        malformed(Check.sized(1, 24, 6) + "i", 141, BAD_STATEMENT);
        malformed(Check.sized(1, 24, 6) + "p0;", 141, BAD_STATEMENT);
    }

    private static void numberComesBeforeRange() {
        CHECK.sentence("The reasons are checked in this order: BAD_NUMBER before OUT_OF_RANGE and TOO_MANY");
        malformed("i99", 0, BAD_NUMBER);
        malformed("i1;g99,0,", 3, BAD_NUMBER);
        malformed("i1;g9,9,9,9;", 3, BAD_NUMBER);
        malformed("i1;o99", 3, BAD_NUMBER);
        malformed("i1;w999;", 3, BAD_NUMBER);
        malformed(Check.sized(1, 24, 0) + "g5,0", 123, BAD_NUMBER);
        malformed(Check.sized(1, 24, 0) + "g0;", 123, BAD_NUMBER);
        malformed(Check.sized(1, 0, 6) + "o0", 21, BAD_NUMBER);
        malformed(Check.sized(1, 0, 6) + "o000;", 21, BAD_NUMBER);
    }

    private static void rangeComesBeforeTooMany() {
        CHECK.sentence("The reasons are checked in this order: OUT_OF_RANGE before TOO_MANY");
        malformed(Check.sized(1, 24, 0) + "g5,25;", 123, OUT_OF_RANGE);
        malformed(Check.sized(1, 24, 0) + "g0,25,0;", 123, OUT_OF_RANGE);
        malformed(Check.sized(1, 24, 0) + "g0,0,25;", 123, OUT_OF_RANGE);
        malformed(Check.sized(1, 24, 0) + "g6,0,0;", 123, OUT_OF_RANGE);
        malformed(Check.sized(1, 24, 0) + "g0,0;", 123, OUT_OF_RANGE);
        malformed(Check.sized(1, 24, 0) + "g5,0,0;", 123, OUT_OF_RANGE);
        malformed(Check.sized(1, 0, 6) + "o1;", 21, OUT_OF_RANGE);
        malformed(Check.sized(1, 0, 6) + "w2;", 21, OUT_OF_RANGE);
    }

    private static void everyOtherSign() {
        CHECK.sentence("Finds the first malformed statement of the circuit text (by the plain model)");
        String text = "i3;g5,2;g01,0,3;o4;w07;";
        for (int at = 0; at < text.length(); at++) {
            likeTheModel(text.substring(0, at) + text.substring(at + 1));
            for (char sign = 32; sign <= 126; sign++) {
                likeTheModel(text.substring(0, at) + sign + text.substring(at + 1));
                likeTheModel(text.substring(0, at) + sign + text.substring(at));
            }
        }
    }

    private static void likeTheModel(String text) {
        Model model = new Model();
        for (int k = 0; k < text.length(); k++) {
            model.append(text.charAt(k));
        }
        SelfCheckingCircuit x = Check.withText(text);
        CHECK.due("firstError() of " + text, x.firstError(), model.firstError());
        CHECK.due("errorReason() of " + text, x.errorReason(), model.errorReason());
        CHECK.due("configure() by " + text, x.configure(), model.configure());
    }
}
