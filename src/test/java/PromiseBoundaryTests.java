/**
 * For each sentence of "Promise 1" to "Promise 29" that names a boundary case a test of its own, in the
 * document's order, with answers worked out by hand.
 */
public final class PromiseBoundaryTests {
    private static final int INVALID_ARGUMENT = -1;
    private static final int INVALID_STATE = -2;
    private static final int LIMIT_REACHED = -3;
    private static final int NONE = -1000;

    private static final int LEAST = Integer.MIN_VALUE;
    private static final int GREATEST = Integer.MAX_VALUE;

    private static final Answers ANSWERS = new Answers();
    private static final String COUNTER = "method do x=x+1;";
    private static final String FAILS = "method do x=0 ensure 1=0;";
    private static final String STAYS = "method do x=x;";
    /** A state holds the last three calls: 40 sequences after 39 steps, and no state is reached twice. */
    private static final String SHIFTS = "method do z=y do y=x do x=1;method do z=y do y=x do x=2;"
            + "method do z=y do y=x do x=3;method do z=y do y=x do x=4;"
            + "method do z=y do y=x do x=5;method do z=y do y=x do x=6;";

    public static void main(String[] arguments) {
        newComponent();
        newInitialValues();
        newMaximumLength();
        newText();
        newExploration();
        newHistory();
        rangeOfCharacters();
        lengthOfTheText();
        characterOutOfRange();
        fullText();
        emptiedText();
        lengthThatTheTextHad();
        loadEmptiesAndResets();
        loadKeepsTheMaximumLength();
        numberOfLoadedMethods();
        textInError();
        rangeOfInitialValues();
        previousInitialValue();
        initialValueOutOfRange();
        methodsMoveDown();
        methodsThatAreLeft();
        removeOfNoMethod();
        numberOfMethods();
        complexityOfAMethod();
        complexityOfNoMethod();
        runUpToTheFirst();
        runEmptiesTheText();
        runAnswers();
        runInError();

        processedStayProcessed();
        rangeOfMaximumLengths();
        maximumLengthOutOfRange();
        asLongAsThereIsAnOpenPair();
        rangeOfSteps();
        stepsOutOfRange();
        noOpenPair();
        poolBeforeReset();
        noProcessedPair();
        editsThatAreLeft();
        nothingToUndo();
        openPairs();
        skippedPairs();
        redundantPairs();
        droppedPairs();

        poolSize();
        sequenceLength();
        noSuchSequence();
        sequenceCall();
        noSuchSequenceCall();
        finalValue();
        noSuchFinalValue();
        enabledMethods();
        enabledMethodsOfNoSequence();
        findState();
        noSuchState();

        failureCount();
        failureLength();
        noSuchFailure();
        failureCall();
        noSuchFailureCall();
        failureVerdict();
        verdictOfNoFailure();
        minimizedLength();
        minimizedLengthOfNoFailure();
        minimizedCall();
        noSuchMinimizedCall();
        ANSWERS.finish("PromiseBoundaryTests");
    }

    private static void about(int promise, String sentence) {
        ANSWERS.about("Promise " + promise + ": " + sentence);
    }

    private static void due(String what, long want, long got) {
        ANSWERS.due(what, want, got);
    }

    private static ContractTester withSteps(String component, int steps) {
        ContractTester tester = Answers.with(component);
        tester.explore(steps);
        return tester;
    }

    // 1

    private static void newComponent() {
        about(1, "A component without invariants and methods");
        ContractTester tester = new ContractTester();
        due("methodCount()", 0, tester.methodCount());
        due("complexity(0)", INVALID_ARGUMENT, tester.complexity(0));
        due("removeMethod(0)", INVALID_ARGUMENT, tester.removeMethod(0));
        due("runText() of 0", -10, Answers.run(tester, "0"));
        due("enabledMethods(0)", 0, tester.enabledMethods(0));
    }

    private static void newInitialValues() {
        about(1, "initial values 0");
        ContractTester tester = new ContractTester();
        due("findState(0, 0, 0)", 0, tester.findState(0, 0, 0));
        for (int field = 0; field < 3; field++) {
            due("finalValue of field " + field, 0, tester.finalValue(0, field));
            due("setInitialValue of field " + field, 100, tester.setInitialValue(field, 1));
        }
    }

    private static void newMaximumLength() {
        about(1, "maximum length 5");
        due("setMaximumLength(1)", 5, new ContractTester().setMaximumLength(1));
        due("steps of a counter", 5, Answers.with(COUNTER).explore(200));
    }

    private static void newText() {
        about(1, "an empty text buffer");
        due("clearText()", 0, new ContractTester().clearText());
        due("appendCharacter()", 1, new ContractTester().appendCharacter('m'));
        due("runText()", 0, new ContractTester().runText());
        due("loadComponent()", 0, new ContractTester().loadComponent());
    }

    private static void newExploration() {
        about(1, "a reset exploration");
        ContractTester tester = new ContractTester();
        due("reset()", INVALID_STATE, tester.reset());
        due("explore(1)", INVALID_STATE, tester.explore(1));
        due("poolSize()", 1, tester.poolSize());
        due("sequenceLength(0)", 0, tester.sequenceLength(0));
        due("sequenceLength(1)", INVALID_ARGUMENT, tester.sequenceLength(1));
        due("failureCount()", 0, tester.failureCount());
        due("failureLength(0)", INVALID_ARGUMENT, tester.failureLength(0));
        due("openPairs()", 0, tester.openPairs());
        due("skippedPairs()", 0, tester.skippedPairs());
        due("redundantPairs()", 0, tester.redundantPairs());
        due("droppedPairs()", 0, tester.droppedPairs());
    }

    private static void newHistory() {
        about(1, "nothing to undo");
        due("undo()", INVALID_STATE, new ContractTester().undo());
    }

    // 2

    private static void rangeOfCharacters() {
        about(2, "its code, 0 to 255");
        ContractTester tester = new ContractTester();
        due("appendCharacter(0)", 1, tester.appendCharacter(0));
        due("appendCharacter(1)", 2, tester.appendCharacter(1));
        due("appendCharacter(127)", 3, tester.appendCharacter(127));
        due("appendCharacter(128)", 4, tester.appendCharacter(128));
        due("appendCharacter(255)", 5, tester.appendCharacter(255));
    }

    private static void lengthOfTheText() {
        about(2, "Returns the new length of the buffer");
        ContractTester tester = new ContractTester();
        for (int length = 1; length <= 200; length++) {
            due("append up to " + length, length, tester.appendCharacter(' '));
        }
        tester.clearText();
        due("append after clearText()", 1, tester.appendCharacter('0'));
        tester.runText();
        due("append after a failing runText()", 2, tester.appendCharacter(' '));
        tester.clearText();
        tester.appendCharacter(' ');
        tester.loadComponent();
        due("append after loadComponent()", 1, tester.appendCharacter(' '));
    }

    private static void characterOutOfRange() {
        about(2, "INVALID_ARGUMENT if the code is out of range");
        ContractTester tester = new ContractTester();
        // The last ones are codes in the range but for their higher bits.
        for (int code : new int[] {-1, 256, 257, LEAST, GREATEST, -65536 + 'a', 65536 + 'a', 256 + 'a', LEAST + 'a'}) {
            due("appendCharacter(" + code + ")", INVALID_ARGUMENT, tester.appendCharacter(code));
        }
        due("nothing is appended", 0, tester.clearText());
    }

    private static void fullText() {
        about(2, "LIMIT_REACHED if the buffer holds 200 characters");
        ContractTester tester = new ContractTester();
        Answers.append(tester, " ".repeat(199));
        due("the 200th character", 200, tester.appendCharacter(255));
        due("the 201st character", LIMIT_REACHED, tester.appendCharacter(255));
        due("and once more", LIMIT_REACHED, tester.appendCharacter(0));
        due("the text is as it was", -10 - 199, tester.loadComponent());
        due("and still full", LIMIT_REACHED, tester.appendCharacter(' '));
        due("until it is cleared", 200, tester.clearText());
        due("then there is room", 1, tester.appendCharacter(' '));
    }

    // 3

    private static void emptiedText() {
        about(3, "Empties the text buffer");
        ContractTester tester = new ContractTester();
        Answers.append(tester, "x".repeat(200));
        tester.clearText();
        due("load after clearText()", 0, tester.loadComponent());
        due("length after clearText()", 1, tester.appendCharacter('x'));
    }

    private static void lengthThatTheTextHad() {
        about(3, "Returns the length that it had");
        ContractTester tester = new ContractTester();
        due("of an empty text", 0, tester.clearText());
        due("of an empty text again", 0, tester.clearText());
        for (int length : new int[] {1, 199, 200}) {
            Answers.append(tester, " ".repeat(length));
            due("of " + length + " characters", length, tester.clearText());
            tester = new ContractTester();
        }
    }

    // 4

    private static void loadEmptiesAndResets() {
        about(4, "Loads the component from the text buffer, empties the buffer, and performs a reset");
        ContractTester tester = Answers.explored(COUNTER + FAILS);
        due("load", 2, Answers.load(tester, "init x 4;" + STAYS + COUNTER));
        due("the text", 0, tester.clearText());
        due("the initial value", 4, tester.finalValue(0, 0));
        due("the pool", 1, tester.poolSize());
        due("the failures", 0, tester.failureCount());
        due("the open pairs", 2, tester.openPairs());
    }

    private static void loadKeepsTheMaximumLength() {
        about(4, "The maximum length stays");
        for (int length = 1; length <= 8; length++) {
            ContractTester tester = new ContractTester();
            tester.setMaximumLength(length);
            Answers.load(tester, COUNTER);
            due("steps with " + length, length, tester.explore(200));
            tester.loadComponent();
            due("after a load of nothing", length, tester.setMaximumLength(5));
        }
    }

    private static void numberOfLoadedMethods() {
        about(4, "Returns the number of methods");
        for (int count = 0; count <= 6; count++) {
            ANSWERS.loads(count, STAYS.repeat(count));
        }
    }

    private static void textInError() {
        about(4, "-10 minus the error offset if the text is in error (the buffer is kept then)");
        ContractTester tester = Answers.with(STAYS);
        due("offset 0", -10, Answers.load(tester, "?"));
        due("the same text again", -10, tester.loadComponent());
        due("its length", 1, tester.clearText());
        due("the end of the text", -10 - 13, Answers.load(tester, "method do x=1"));
        due("the text with an end", 1, Answers.load(tester, ";"));
        due("the emptied text", 0, tester.clearText());
        due("offset 199", -10 - 199, Answers.load(tester, " ".repeat(199) + "?"));
        tester = Answers.with(STAYS);
        due("offset 200", -10 - 200, Answers.load(tester, " ".repeat(193) + "method "));
        due("the methods stay", 1, tester.methodCount());
        due("it is no edit", 0, tester.undo());
    }

    // 5

    private static void rangeOfInitialValues() {
        about(5, "field: 0 to 2, value: -99 to 99");
        for (int field = 0; field < 3; field++) {
            ContractTester tester = Answers.explored(COUNTER);
            for (int value : new int[] {-99, -98, 0, 98, 99}) {
                due("set field " + field + " to " + value, 1, tester.setInitialValue(field, value) > 0 ? 1 : 0);
                due("its value", value, tester.finalValue(0, field));
            }
            due("the pool is reset", 1, tester.poolSize());
        }
        for (int field = 0; field < 3; field++) {
            ContractTester tester = Answers.with("init x 1;init y 2;init z 3;invariant x<2;" + COUNTER);
            tester.setInitialValue(field, -field);
            for (int each = 0; each < 3; each++) {
                due("field " + each, each == field ? -field : each + 1, tester.finalValue(0, each));
            }
            due("the methods stay", 1, tester.methodCount());
            due("the invariants stay", field == 0 ? 14 : 4, Answers.run(tester, "00"));
        }
    }

    private static void previousInitialValue() {
        about(5, "Returns 100 plus the previous initial value");
        for (int field = 0; field < 3; field++) {
            ContractTester tester = new ContractTester();
            due("0 before", 100, tester.setInitialValue(field, -99));
            due("-99 before", 1, tester.setInitialValue(field, 99));
            due("99 before", 199, tester.setInitialValue(field, 99));
            due("99 before again", 199, tester.setInitialValue(field, 1));
            due("1 before", 101, tester.setInitialValue(field, 0));
        }
        due("-5 loaded before", 95, Answers.with("init y -5;").setInitialValue(1, 0));
    }

    private static void initialValueOutOfRange() {
        about(5, "INVALID_ARGUMENT if an argument is out of range");
        ContractTester tester = new ContractTester();
        for (int field : new int[] {-1, 3, LEAST, GREATEST}) {
            due("field " + field, INVALID_ARGUMENT, tester.setInitialValue(field, 1));
            due("field " + field + " and value 100", INVALID_ARGUMENT, tester.setInitialValue(field, 100));
        }
        for (int value : new int[] {-100, 100, LEAST, GREATEST, 256, -256}) {
            due("value " + value, INVALID_ARGUMENT, tester.setInitialValue(2, value));
        }
        due("nothing is set", 0, tester.findState(0, 0, 0));
        due("nothing to undo", INVALID_STATE, tester.undo());
    }

    // 6

    private static void methodsMoveDown() {
        about(6, "The methods with greater numbers move down by one");
        String four = "method do x=1;method do x=1 do x=1;method do x=1 do x=1 do x=1;method do x=1+1 do x=1 do x=1;";
        int[][] left = {{2, 3, 4}, {1, 3, 4}, {1, 2, 4}, {1, 2, 3}};
        for (int removed = 0; removed < 4; removed++) {
            ContractTester tester = Answers.with(four);
            tester.removeMethod(removed);
            for (int method = 0; method < 3; method++) {
                due("method " + method + " without " + removed, left[removed][method], tester.complexity(method));
            }
            due("method 3 without " + removed, INVALID_ARGUMENT, tester.complexity(3));
        }
        ContractTester tester = Answers.with("init x 1;init y 2;init z 3;invariant x<3;" + FAILS + COUNTER);
        tester.removeMethod(0);
        due("the initial values stay", 0, tester.findState(1, 2, 3));
        due("the invariants stay", 14, Answers.run(tester, "00"));
    }

    private static void methodsThatAreLeft() {
        about(6, "Returns the number of methods that are left");
        ContractTester tester = Answers.with(STAYS.repeat(6));
        for (int left = 5; left >= 0; left--) {
            due("remove with " + left + " left", left, tester.removeMethod(left / 2));
            due("methodCount", left, tester.methodCount());
            due("openPairs", left, tester.openPairs());
        }
    }

    private static void removeOfNoMethod() {
        about(6, "INVALID_ARGUMENT if there is no such method");
        ContractTester tester = Answers.with(STAYS + COUNTER);
        for (int method : new int[] {-1, 2, 6, LEAST, GREATEST, NONE}) {
            due("remove " + method, INVALID_ARGUMENT, tester.removeMethod(method));
        }
        due("none is removed", 2, tester.methodCount());
        tester.removeMethod(1);
        due("the method that has moved", INVALID_ARGUMENT, tester.removeMethod(1));
        tester.removeMethod(0);
        due("remove of none", INVALID_ARGUMENT, tester.removeMethod(0));
    }

    // 7

    private static void numberOfMethods() {
        about(7, "Returns the number of methods");
        due("none", 0, new ContractTester().methodCount());
        ContractTester tester = Answers.with(STAYS.repeat(6));
        due("six", 6, tester.methodCount());
        due("a seventh", -10 - 84, Answers.load(tester, STAYS.repeat(7)));
        due("still six", 6, tester.methodCount());
    }

    // 8

    private static void complexityOfAMethod() {
        about(8, "Returns its complexity");
        ContractTester tester = Answers.with(STAYS + STAYS.repeat(4) + "method require x<1 do x=x+1 ensure x<2;");
        due("the first", 1, tester.complexity(0));
        due("the last", 4, tester.complexity(5));
    }

    private static void complexityOfNoMethod() {
        about(8, "INVALID_ARGUMENT if there is no such method");
        ContractTester tester = Answers.with(STAYS.repeat(3));
        for (int method : new int[] {-1, 3, LEAST, GREATEST}) {
            due("complexity(" + method + ")", INVALID_ARGUMENT, tester.complexity(method));
        }
        due("of a new object", INVALID_ARGUMENT, new ContractTester().complexity(0));
    }

    // 9

    private static void runUpToTheFirst() {
        about(9, "from the initial state, up to the first call whose verdict is not OK");
        ContractTester tester = Answers.with("init x 1;method require x<3 do x=x+1;" + FAILS);
        due("two calls from the initial state", 0, Answers.run(tester, "00"));
        due("the third", 21, Answers.run(tester, "000"));
        due("the first of two that aren't OK", 13, Answers.run(tester, "0111"));
        due("PRECONDITION ends the run, too", 21, Answers.run(tester, "0001"));
        tester.explore(2);
        due("not from a state of the pool", 0, Answers.run(tester, "00"));
        due("the exploration isn't affected", 1, tester.failureCount());
    }

    private static void runEmptiesTheText() {
        about(9, "The buffer is emptied");
        ContractTester tester = Answers.with(STAYS + FAILS);
        due("OK", 0, Answers.run(tester, "0"));
        due("then", 0, tester.clearText());
        due("POSTCONDITION", 3, Answers.run(tester, "10"));
        due("then", 0, tester.clearText());
        due("200 calls", 0, Answers.run(tester, "0".repeat(200)));
        due("then", 1, tester.appendCharacter('0'));
    }

    private static void runAnswers() {
        about(9, "Returns 0 if all verdicts are OK; otherwise 10 times the 0-based number of the call");
        due("no calls", 0, Answers.run(Answers.with(STAYS), ""));
        due("no calls and no methods", 0, new ContractTester().runText());
        String text = "invariant y<9;" + STAYS + "method require 1=0 do x=1;method do x=99+1;" + FAILS + "method do y=9;";
        for (int verdict = 0; verdict <= 4; verdict++) {
            ContractTester tester = Answers.with(text);
            due("verdict " + verdict + " of call 0", verdict, Answers.run(tester, "" + verdict));
            due("verdict " + verdict + " of call 1", verdict == 0 ? 0 : 10 + verdict, Answers.run(tester, "0" + verdict));
            due("verdict " + verdict + " of call 199", verdict == 0 ? 0 : 1990 + verdict,
                    Answers.run(tester, "0".repeat(199) + verdict));
        }
    }

    private static void runInError() {
        about(9, "-10 minus the 0-based offset of the first character that is not a digit of an existing method number");
        ContractTester tester = Answers.with(STAYS.repeat(5) + FAILS);
        due("method 5", 3, Answers.run(tester, "5"));
        for (String text : new String[] {"6", "7", "9", "/", ":", " ", "x", "-", "\u0000", "\u00b2", "\u00ff"}) {
            due("run of '" + text + "'", -10, Answers.run(tester, text));
            due("its length", 1, tester.clearText());
        }
        due("behind a call that fails", -10 - 2, Answers.run(tester, "556"));
        due("again, as nothing is executed", -10 - 2, tester.runText());
        due("the text is kept", 3, tester.clearText());
        due("the first of two", -10 - 1, Answers.run(tester, "066"));
        due("the text is kept", 3, tester.clearText());
        tester = Answers.with(STAYS);
        due("offset 199", -10 - 199, Answers.run(tester, "0".repeat(199) + "1"));
        due("the text is kept", 200, tester.clearText());
        tester.removeMethod(0);
        due("without methods", -10, Answers.run(tester, "0"));
    }

    // 10

    private static void processedStayProcessed() {
        about(10, "Pairs that have been processed stay processed");
        ContractTester tester = Answers.with(COUNTER + STAYS);
        tester.explore(5);
        due("one pair of sequence 2 and both of sequence 3", 3, tester.openPairs());
        tester.setMaximumLength(2);
        due("sequence 2 is too long", 0, tester.openPairs());
        due("its pairs aren't lost", 2, tester.redundantPairs());
        tester.setMaximumLength(3);
        due("the rest of its pairs", 1, tester.openPairs());
        due("steps", 1, tester.explore(200));
        due("which is the pair that stays", 3, tester.redundantPairs());
        tester.setMaximumLength(8);
        due("the pairs of sequence 3", 2, tester.openPairs());
        due("steps up to 8", 10, tester.explore(200));
    }

    private static void rangeOfMaximumLengths() {
        about(10, "length: 1 to 8. Returns the previous maximum length");
        ContractTester tester = new ContractTester();
        int previous = 5;
        for (int length : new int[] {1, 1, 8, 8, 2, 7, 3, 6, 4, 5}) {
            due("setMaximumLength(" + length + ")", previous, tester.setMaximumLength(length));
            previous = length;
        }
    }

    private static void maximumLengthOutOfRange() {
        about(10, "INVALID_ARGUMENT if the argument is out of range");
        ContractTester tester = new ContractTester();
        for (int length : new int[] {0, 9, -1, LEAST, GREATEST}) {
            due("setMaximumLength(" + length + ")", INVALID_ARGUMENT, tester.setMaximumLength(length));
        }
        due("it is no edit", INVALID_STATE, tester.undo());
        due("the length stays", 5, tester.setMaximumLength(5));
    }

    // 11

    private static void asLongAsThereIsAnOpenPair() {
        about(11, "Performs steps as long as there is an open pair");
        due("one step more than pairs", 5, Answers.with(COUNTER).explore(6));
        due("as many steps as pairs", 5, Answers.with(COUNTER).explore(5));
        due("one step less than pairs", 4, Answers.with(COUNTER).explore(4));
        due("one pair", 1, Answers.with(STAYS).explore(200));
        ContractTester tester = withSteps(COUNTER, 4);
        due("the pair that is left", 1, tester.explore(2));
        due("then none", INVALID_STATE, tester.explore(2));
    }

    private static void rangeOfSteps() {
        about(11, "the greatest number of steps, 1 to 200");
        due("explore(1)", 1, Answers.with(SHIFTS).explore(1));
        due("explore(2)", 2, Answers.with(SHIFTS).explore(2));
        due("explore(199)", 199, Answers.with(SHIFTS).explore(199));
        ContractTester tester = Answers.with(SHIFTS);
        due("explore(200)", 200, tester.explore(200));
        due("explore(200) again", 40, tester.explore(200));
    }

    private static void stepsOutOfRange() {
        about(11, "INVALID_ARGUMENT if the argument is out of range");
        ContractTester tester = Answers.with(SHIFTS);
        for (int steps : new int[] {0, 201, -1, LEAST, GREATEST}) {
            due("explore(" + steps + ")", INVALID_ARGUMENT, tester.explore(steps));
        }
        due("no step was performed", 6, tester.openPairs());
        due("it is no edit", 0, tester.undo());
    }

    private static void noOpenPair() {
        about(11, "INVALID_STATE if there is no open pair");
        due("without methods", INVALID_STATE, new ContractTester().explore(200));
        due("with all processed", INVALID_STATE, Answers.explored(STAYS).explore(1));
        ContractTester tester = Answers.explored(COUNTER);
        due("with all sequences too long", INVALID_STATE, tester.explore(1));
        tester.setMaximumLength(6);
        due("with one that isn't", 1, tester.explore(200));
        tester.setMaximumLength(1);
        due("with a lower maximum", INVALID_STATE, tester.explore(200));
        due("the two refused ones are no edits", 4, tester.undo());
    }

    // 12

    private static void poolBeforeReset() {
        about(12, "Returns the number of sequences that the pool had");
        due("one", 1, Answers.explored(STAYS).reset());
        due("two", 2, withSteps(COUNTER, 1).reset());
        due("40", 40, Answers.explored(SHIFTS).reset());
    }

    private static void noProcessedPair() {
        about(12, "INVALID_STATE if no pair is processed");
        due("a new object", INVALID_STATE, new ContractTester().reset());
        due("after a load", INVALID_STATE, Answers.with(COUNTER).reset());
        due("one skipped pair", 1, Answers.explored("method require 1=0 do x=1;").reset());
        due("one failing pair", 1, Answers.explored(FAILS).reset());
        ContractTester tester = Answers.explored(COUNTER);
        tester.setInitialValue(0, 0);
        due("after setInitialValue", INVALID_STATE, tester.reset());
        tester.undo();
        due("after undo of it", 6, tester.reset());
        due("but no second one", INVALID_STATE, tester.reset());
        tester.undo();
        tester.undo();
        due("after undo of explore", INVALID_STATE, tester.reset());
        tester = Answers.explored(STAYS + COUNTER);
        tester.removeMethod(0);
        due("after removeMethod", INVALID_STATE, tester.reset());
    }

    // 13

    private static void editsThatAreLeft() {
        about(13, "Returns how many edits can still be undone");
        ContractTester tester = new ContractTester();
        for (int edit = 1; edit <= 7; edit++) {
            tester.setMaximumLength(edit);
        }
        for (int left = 5; left >= 0; left--) {
            due("undo with " + left + " left", left, tester.undo());
        }
        due("the oldest edit can't be undone", 1, tester.setMaximumLength(8));
        due("one edit", 0, tester.undo());
    }

    private static void nothingToUndo() {
        about(13, "INVALID_STATE if there is none to undo");
        ContractTester tester = new ContractTester();
        due("a new object", INVALID_STATE, tester.undo());
        tester.setInitialValue(0, 7);
        due("one edit", 0, tester.undo());
        due("then none", INVALID_STATE, tester.undo());
        due("and none again", INVALID_STATE, tester.undo());
        tester.setInitialValue(0, 8);
        due("a new edit", 0, tester.undo());
        due("its value", 0, tester.finalValue(0, 0));
    }

    // 14 to 17

    private static void openPairs() {
        about(14, "Returns the number of open pairs");
        due("without methods", 0, new ContractTester().openPairs());
        due("one", 1, Answers.with(COUNTER).openPairs());
        ContractTester tester = Answers.with(SHIFTS);
        due("six", 6, tester.openPairs());
        tester.explore(39);
        due("the most there are", 201, tester.openPairs());
        tester.setMaximumLength(2);
        due("those of sequence 6, the last one of one call", 3, tester.openPairs());
        tester.setMaximumLength(3);
        due("those of the sequences of two calls, too", 201, tester.openPairs());
        tester.explore(200);
        due("the last one", 1, tester.openPairs());
        tester.explore(200);
        due("none", 0, tester.openPairs());
    }

    private static void skippedPairs() {
        about(15, "Returns the number of skipped pairs");
        due("none", 0, Answers.explored(COUNTER).skippedPairs());
        due("all", 6, Answers.explored("method require 1=0 do x=1;".repeat(6)).skippedPairs());
        ContractTester tester = Answers.explored("method do z=y do y=x do x=1;method do z=y do y=x do x=2;"
                + "method do z=y do y=x do x=3;" + "method require 1=0 do x=1;".repeat(3));
        // 40 sequences of at most 3 calls, of 6 pairs each: 33 sequences have all theirs processed.
        due("in 200 steps", 99, tester.skippedPairs());
        tester.explore(200);
        due("in all", 120, tester.skippedPairs());
    }

    private static void redundantPairs() {
        about(16, "Returns the number of redundant pairs");
        due("none", 0, Answers.explored(SHIFTS).redundantPairs());
        due("all", 6, Answers.explored(STAYS.repeat(6)).redundantPairs());
        due("two of four steps", 2, withSteps(COUNTER + STAYS, 4).redundantPairs());
    }

    private static void droppedPairs() {
        about(17, "Returns the number of dropped pairs");
        ContractTester tester = withSteps(SHIFTS, 39);
        due("none beside 40 sequences", 0, tester.droppedPairs());
        tester.explore(1);
        due("one", 1, tester.droppedPairs());
        tester.explore(200);
        due("the most there are", 201, tester.droppedPairs());
        // 4 sequences with 5 failures each, then 5 of the fifth.
        tester = withSteps(COUNTER + FAILS.repeat(5), 24);
        due("none beside 20 failures", 0, tester.droppedPairs());
        tester.explore(200);
        due("all other failures", 5, tester.droppedPairs());
    }

    // 18 to 23

    private static void poolSize() {
        about(18, "Returns the number of sequences of the pool");
        due("one", 1, new ContractTester().poolSize());
        due("two", 2, withSteps(COUNTER, 1).poolSize());
        due("40", 40, withSteps(SHIFTS, 39).poolSize());
        due("40 and no more", 40, Answers.explored(SHIFTS).poolSize());
    }

    private static ContractTester longest() {
        ContractTester tester = Answers.with(COUNTER + "method require x=7 do y=99+1;");
        tester.setMaximumLength(8);
        tester.explore(200);
        return tester;
    }

    private static void sequenceLength() {
        about(19, "Returns the number of its calls");
        ContractTester tester = longest();
        for (int sequence = 0; sequence <= 8; sequence++) {
            due("sequence " + sequence, sequence, tester.sequenceLength(sequence));
        }
        due("sequence 39", 2, Answers.explored(SHIFTS).sequenceLength(39));
    }

    private static void noSuchSequence() {
        about(19, "INVALID_ARGUMENT if there is no such sequence");
        ContractTester tester = withSteps(COUNTER, 1);
        for (int sequence : new int[] {-1, 2, 39, 40, 41, LEAST, GREATEST}) {
            due("sequence " + sequence, INVALID_ARGUMENT, tester.sequenceLength(sequence));
        }
        due("sequence 40 of 40", INVALID_ARGUMENT, Answers.explored(SHIFTS).sequenceLength(40));
        tester.reset();
        due("after reset", INVALID_ARGUMENT, tester.sequenceLength(1));
    }

    private static void sequenceCall() {
        about(20, "Returns the method of this call");
        ContractTester tester = longest();
        due("the first call of the longest", 0, tester.sequenceCall(8, 0));
        due("its last call", 0, tester.sequenceCall(8, 7));
        tester = Answers.explored(SHIFTS);
        due("sequence 6", 5, tester.sequenceCall(6, 0));
        due("first call of sequence 39", 5, tester.sequenceCall(39, 0));
        due("last call of sequence 39", 2, tester.sequenceCall(39, 1));
    }

    private static void noSuchSequenceCall() {
        about(20, "INVALID_ARGUMENT if there is no such sequence or the index is negative; NONE if the sequence has no such call");
        ContractTester tester = longest();
        for (int sequence : new int[] {-1, 9, 40, LEAST, GREATEST}) {
            due("call 0 of sequence " + sequence, INVALID_ARGUMENT, tester.sequenceCall(sequence, 0));
            due("call 8 of sequence " + sequence, INVALID_ARGUMENT, tester.sequenceCall(sequence, 8));
            due("call -1 of sequence " + sequence, INVALID_ARGUMENT, tester.sequenceCall(sequence, -1));
        }
        for (int sequence = 0; sequence <= 8; sequence++) {
            due("call -1 of sequence " + sequence, INVALID_ARGUMENT, tester.sequenceCall(sequence, -1));
            due("past sequence " + sequence, NONE, tester.sequenceCall(sequence, sequence));
        }
        due("the least index", INVALID_ARGUMENT, tester.sequenceCall(8, LEAST));
        due("the greatest index", NONE, tester.sequenceCall(8, GREATEST));
    }

    private static void finalValue() {
        about(21, "Returns the value of the field in the state of the sequence");
        ContractTester tester = Answers.explored("init x -99;init y 99;init z 1;method do x=99 do y=-99 do z=0;");
        int[][] values = {{-99, 99, 1}, {99, -99, 0}};
        for (int sequence = 0; sequence < 2; sequence++) {
            for (int field = 0; field < 3; field++) {
                due("field " + field + " of " + sequence, values[sequence][field], tester.finalValue(sequence, field));
            }
        }
        tester = Answers.explored(SHIFTS);
        due("x of sequence 39", 3, tester.finalValue(39, 0));
        due("y of sequence 39", 6, tester.finalValue(39, 1));
    }

    private static void noSuchFinalValue() {
        about(21, "NONE if there is no such sequence or the field is out of range");
        ContractTester tester = withSteps(COUNTER, 1);
        for (int sequence : new int[] {-1, 2, 40, LEAST, GREATEST}) {
            due("x of sequence " + sequence, NONE, tester.finalValue(sequence, 0));
            due("field 3 of sequence " + sequence, NONE, tester.finalValue(sequence, 3));
        }
        for (int field : new int[] {-1, 3, LEAST, GREATEST}) {
            due("field " + field, NONE, tester.finalValue(1, field));
        }
        due("sequence 40 of 40", NONE, Answers.explored(SHIFTS).finalValue(40, 0));
    }

    private static void enabledMethods() {
        about(22, "Returns a bit set of the methods all of whose preconditions hold in the state of the sequence");
        due("without methods", 0, new ContractTester().enabledMethods(0));
        due("none of six", 0, Answers.with("method require 1=0 do x=1;".repeat(6)).enabledMethods(0));
        due("all six", 0b111111, Answers.with(FAILS.repeat(6)).enabledMethods(0));
        due("the first", 0b000001, Answers.with(FAILS + "method require 1=0 do x=1;".repeat(5)).enabledMethods(0));
        due("the last", 0b100000, Answers.with("method require 1=0 do x=1;".repeat(5) + FAILS).enabledMethods(0));
        ContractTester tester = Answers.explored("method require x=0 require x<1 do x=1;method require x=0 require x=1 do y=1;"
                + "method require x=1 require x=0 do y=1;method require x=1 require y=0 do z=0;");
        due("both preconditions in sequence 0", 0b0001, tester.enabledMethods(0));
        due("both preconditions in sequence 1", 0b1000, tester.enabledMethods(1));
        due("sequence 39", 0b111111, Answers.explored(SHIFTS).enabledMethods(39));
    }

    private static void enabledMethodsOfNoSequence() {
        about(22, "INVALID_ARGUMENT if there is no such sequence");
        ContractTester tester = withSteps(COUNTER, 1);
        for (int sequence : new int[] {-1, 2, 40, LEAST, GREATEST}) {
            due("sequence " + sequence, INVALID_ARGUMENT, tester.enabledMethods(sequence));
        }
        due("sequence 40 of 40", INVALID_ARGUMENT, Answers.explored(SHIFTS).enabledMethods(40));
    }

    private static void findState() {
        about(23, "Returns the number of the sequence of the pool that has this state");
        due("a new object", 0, new ContractTester().findState(0, 0, 0));
        due("the ends of the range", 0, Answers.with("init x 99;init y -99;init z 99;").findState(99, -99, 99));
        ContractTester tester = Answers.explored(SHIFTS);
        due("the first sequence", 0, tester.findState(0, 0, 0));
        due("the last sequence", 39, tester.findState(3, 6, 0));
    }

    private static void noSuchState() {
        about(23, "NONE if there is none");
        ContractTester tester = Answers.with("init x 99;init y -99;init z 1;");
        due("another x", NONE, tester.findState(98, -99, 1));
        due("another y", NONE, tester.findState(99, 99, 1));
        due("another z", NONE, tester.findState(99, -99, 0));
        due("out of the range", NONE, tester.findState(100, -100, 1));
        due("far out of it", NONE, tester.findState(LEAST, GREATEST, 1));
        due("the number for no value", NONE, tester.findState(NONE, NONE, NONE));
        due("a dropped state", NONE, Answers.explored(SHIFTS).findState(4, 6, 0));
        tester = withSteps(COUNTER, 1);
        due("a state that isn't reached yet", NONE, tester.findState(2, 0, 0));
        due("a state that is", 1, tester.findState(1, 0, 0));
        tester.reset();
        due("a state after reset", NONE, tester.findState(1, 0, 0));
    }

    // 24 to 29

    private static void failureCount() {
        about(24, "Returns the number of failures");
        due("none", 0, Answers.explored(COUNTER).failureCount());
        due("one", 1, Answers.explored(FAILS).failureCount());
        due("19", 19, withSteps(COUNTER + FAILS.repeat(5), 23).failureCount());
        due("20", 20, withSteps(COUNTER + FAILS.repeat(5), 24).failureCount());
        due("20 and no more", 20, Answers.explored(COUNTER + FAILS.repeat(5)).failureCount());
    }

    private static void failureLength() {
        about(25, "Returns the number of its calls, the failing one included");
        due("the shortest", 1, Answers.explored(FAILS).failureLength(0));
        due("the longest", 8, longest().failureLength(0));
        due("failure 19", 4, Answers.explored(COUNTER + FAILS.repeat(5)).failureLength(19));
    }

    private static void noSuchFailure() {
        about(25, "INVALID_ARGUMENT if there is no such failure");
        ContractTester tester = Answers.explored(FAILS);
        for (int failure : new int[] {-1, 1, 19, 20, LEAST, GREATEST}) {
            due("failure " + failure, INVALID_ARGUMENT, tester.failureLength(failure));
        }
        due("failure 20 of 20", INVALID_ARGUMENT, Answers.explored(COUNTER + FAILS.repeat(5)).failureLength(20));
        due("without failures", INVALID_ARGUMENT, Answers.explored(COUNTER).failureLength(0));
        tester.reset();
        due("after reset", INVALID_ARGUMENT, tester.failureLength(0));
    }

    private static void failureCall() {
        about(26, "Returns the method of this call");
        ContractTester tester = longest();
        due("the first call of the longest", 0, tester.failureCall(0, 0));
        due("the call before the last", 0, tester.failureCall(0, 6));
        due("the last call", 1, tester.failureCall(0, 7));
        tester = Answers.explored(COUNTER + FAILS.repeat(5));
        due("the call of failure 4", 5, tester.failureCall(4, 0));
        due("the last call of failure 19", 5, tester.failureCall(19, 3));
    }

    private static void noSuchFailureCall() {
        about(26, "INVALID_ARGUMENT if there is no such failure or the index is negative; NONE if the failure has no such call");
        ContractTester tester = longest();
        for (int failure : new int[] {-1, 1, 20, LEAST, GREATEST}) {
            due("call 0 of failure " + failure, INVALID_ARGUMENT, tester.failureCall(failure, 0));
            due("call 8 of failure " + failure, INVALID_ARGUMENT, tester.failureCall(failure, 8));
            due("call -1 of failure " + failure, INVALID_ARGUMENT, tester.failureCall(failure, -1));
        }
        due("call -1", INVALID_ARGUMENT, tester.failureCall(0, -1));
        due("the least index", INVALID_ARGUMENT, tester.failureCall(0, LEAST));
        due("past the longest", NONE, tester.failureCall(0, 8));
        due("the greatest index", NONE, tester.failureCall(0, GREATEST));
        due("past the shortest", NONE, Answers.explored(FAILS).failureCall(0, 1));
        due("failure 20 of 20", INVALID_ARGUMENT, Answers.explored(COUNTER + FAILS.repeat(5)).failureCall(20, 0));
    }

    private static void failureVerdict() {
        about(27, "Returns the verdict of its last call, 2 to 4");
        ContractTester tester = Answers.explored("invariant x<5;method do x=99+1;" + FAILS + "method do x=5;");
        for (int failure = 0; failure < 3; failure++) {
            due("failure " + failure, failure + 2, tester.failureVerdict(failure));
        }
        due("failure 19", 3, Answers.explored(COUNTER + FAILS.repeat(5)).failureVerdict(19));
    }

    private static void verdictOfNoFailure() {
        about(27, "INVALID_ARGUMENT if there is no such failure");
        ContractTester tester = Answers.explored(FAILS);
        for (int failure : new int[] {-1, 1, 19, 20, LEAST, GREATEST}) {
            due("failure " + failure, INVALID_ARGUMENT, tester.failureVerdict(failure));
        }
        due("failure 20 of 20", INVALID_ARGUMENT, Answers.explored(COUNTER + FAILS.repeat(5)).failureVerdict(20));
        tester.reset();
        due("after reset", INVALID_ARGUMENT, tester.failureVerdict(0));
    }

    private static void minimizedLength() {
        about(28, "Returns the number of calls of the minimized failure");
        due("the shortest", 1, Answers.explored(FAILS).minimizedLength(0));
        due("the longest", 8, longest().minimizedLength(0));
        due("failure 19", 1, Answers.explored(COUNTER + FAILS.repeat(5)).minimizedLength(19));
    }

    private static void minimizedLengthOfNoFailure() {
        about(28, "INVALID_ARGUMENT if there is no such failure");
        ContractTester tester = Answers.explored(FAILS);
        for (int failure : new int[] {-1, 1, 19, 20, LEAST, GREATEST}) {
            due("failure " + failure, INVALID_ARGUMENT, tester.minimizedLength(failure));
        }
        due("failure 20 of 20", INVALID_ARGUMENT, Answers.explored(COUNTER + FAILS.repeat(5)).minimizedLength(20));
        tester.reset();
        due("after reset", INVALID_ARGUMENT, tester.minimizedLength(0));
    }

    private static void minimizedCall() {
        about(29, "Returns the method of this call of the minimized failure");
        due("the only call", 0, Answers.explored(FAILS).minimizedCall(0, 0));
        due("the first call of the longest", 0, longest().minimizedCall(0, 0));
        due("the last call of the longest", 1, longest().minimizedCall(0, 7));
        due("failure 19", 5, Answers.explored(COUNTER + FAILS.repeat(5)).minimizedCall(19, 0));
    }

    private static void noSuchMinimizedCall() {
        about(29, "INVALID_ARGUMENT if there is no such failure or the index is negative; NONE if the minimized failure has no such call");
        ContractTester tester = longest();
        for (int failure : new int[] {-1, 1, 20, LEAST, GREATEST}) {
            due("call 0 of failure " + failure, INVALID_ARGUMENT, tester.minimizedCall(failure, 0));
            due("call 8 of failure " + failure, INVALID_ARGUMENT, tester.minimizedCall(failure, 8));
            due("call -1 of failure " + failure, INVALID_ARGUMENT, tester.minimizedCall(failure, -1));
        }
        due("call -1", INVALID_ARGUMENT, tester.minimizedCall(0, -1));
        due("the least index", INVALID_ARGUMENT, tester.minimizedCall(0, LEAST));
        due("past the longest", NONE, tester.minimizedCall(0, 8));
        due("the greatest index", NONE, tester.minimizedCall(0, GREATEST));
        // The failure has these calls, the minimized one hasn't.
        tester = Answers.explored(COUNTER + FAILS.repeat(5));
        due("call 3 of failure 19", 5, tester.failureCall(19, 3));
        due("call 3 of minimized failure 19", NONE, tester.minimizedCall(19, 3));
        due("call 1 of minimized failure 19", NONE, tester.minimizedCall(19, 1));
        due("failure 20 of 20", INVALID_ARGUMENT, tester.minimizedCall(20, 0));
    }
}
