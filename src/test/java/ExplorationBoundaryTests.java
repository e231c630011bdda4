import java.util.function.Supplier;
import java.util.function.ToIntFunction;

/**
 * For each sentence of the document's "Exploration", "Minimized failures" and "History and errors" that
 * names a boundary case a test of its own, in the document's order, with answers worked out by hand.
 */
public final class ExplorationBoundaryTests {
    private static final int INVALID_ARGUMENT = -1;
    private static final int INVALID_STATE = -2;
    private static final int LIMIT_REACHED = -3;
    private static final int NONE = -1000;

    private static final Answers ANSWERS = new Answers();
    private static final String COUNTER = "method do x=x+1;";
    private static final String FAILS = "method do x=0 ensure 1=0;";
    private static final String STAYS = "method do x=x;";
    /** Has pairs of all kinds within 200 steps, and a full pool and a full list of failures after them. */
    private static final String ALL_KINDS = shifts(3) + "method require x=0 do z=1;" + FAILS + STAYS;

    public static void main(String[] arguments) {
        sizeOfThePool();
        onlyOkCalls();
        emptySequence();
        stateOfASequence();
        fewerCallsThanTheMaximum();
        maximumAtFirst();
        processedIsNotOpen();
        firstOpenPair();
        skippedPair();
        failureIsAppended();
        moreThan20Failures();
        redundantPair();
        redundantBesideAFullPool();
        newState();
        moreThan40Sequences();
        resetOfAll();
        resetOfThePairs();

        callsButTheLast();
        okForAllButTheLast();
        verdictOfTheFailure();
        searchStartsAgain();
        searchFromTheFirst();
        noCallIsLeft();
        failureDoesNotChange();

        successfulCallsAreEdits();
        otherCallsAreNot();
        editsThatReset();
        undoRestores();
        undoRestoresWhatWasWrittenOver();
        undoLeavesTheText();
        lastSixEdits();
        ringOfEdits();
        severalErrors();
        errorsChangeNothing();
        looksChangeNothing();
        ANSWERS.finish("ExplorationBoundaryTests");
    }

    private static void about(String sentence) {
        ANSWERS.about(sentence);
    }

    private static void due(String what, long want, long got) {
        ANSWERS.due(what, want, got);
    }

    /**
     * A state holds the numbers of the last three calls, so that all sequences of up to three calls
     * lead to states of their own.
     */
    private static String shifts(int methods) {
        StringBuilder text = new StringBuilder();
        for (int method = 1; method <= methods; method++) {
            text.append("method do z=y do y=x do x=").append(method).append(';');
        }
        return text.toString();
    }

    // Exploration

    private static void sizeOfThePool() {
        about("The pool is a list of at most 40 sequences, numbered from 0");
        ContractTester tester = Answers.with(shifts(6));
        due("steps to 39 sequences", 38, tester.explore(38));
        due("39 sequences", 39, tester.poolSize());
        due("no sequence 39 yet", INVALID_ARGUMENT, tester.sequenceLength(39));
        due("one step more", 1, tester.explore(1));
        due("40 sequences", 40, tester.poolSize());
        due("sequence 39", 2, tester.sequenceLength(39));
        due("its first call", 5, tester.sequenceCall(39, 0));
        due("its last call", 2, tester.sequenceCall(39, 1));
        due("its state", 39, tester.findState(3, 6, 0));
        due("all other steps", 200, tester.explore(200));
        due("still 40 sequences", 40, tester.poolSize());
        due("no sequence 40", INVALID_ARGUMENT, tester.sequenceLength(40));
    }

    private static void onlyOkCalls() {
        about("all of whose calls have the verdict OK");
        ContractTester tester = Answers.with("invariant x<5;method require 1=0 do x=1;method do x=99+1;"
                + FAILS + "method do x=5;");
        due("steps", 4, tester.explore(200));
        due("pool", 1, tester.poolSize());
    }

    private static void emptySequence() {
        about("Sequence 0 is the empty sequence");
        ContractTester tester = Answers.with(COUNTER);
        for (int round = 0; round < 2; round++) {
            due("length", 0, tester.sequenceLength(0));
            due("call 0", NONE, tester.sequenceCall(0, 0));
            tester.explore(200);
        }
        tester.reset();
        due("length after reset", 0, tester.sequenceLength(0));
    }

    private static void stateOfASequence() {
        about("the state after its last call (the initial state for the empty sequence)");
        ContractTester tester = Answers.with("init x 7;init y -7;method do x=x+1 do z=z-1;");
        tester.explore(2);
        due("the empty sequence", 0, tester.findState(7, -7, 0));
        due("one call", 1, tester.findState(8, -7, -1));
        due("two calls", 2, tester.findState(9, -7, -2));
    }

    private static void fewerCallsThanTheMaximum() {
        about("the sequence has fewer calls than the maximum length (1 to 8, initially 5)");
        for (int maximum = 1; maximum <= 8; maximum++) {
            ContractTester tester = Answers.with(COUNTER);
            tester.setMaximumLength(maximum);
            due("steps up to " + maximum, maximum, tester.explore(200));
            due("the longest sequence", maximum, tester.sequenceLength(maximum));
            due("its pairs aren't open", 0, tester.openPairs());
            tester.undo();
            due("steps to a shorter one", maximum > 1 ? maximum - 1 : 1, tester.explore(Math.max(1, maximum - 1)));
            due("the pair of the shorter one", maximum > 1 ? 1 : 0, tester.openPairs());
        }
    }

    private static void maximumAtFirst() {
        about("(1 to 8, initially 5)");
        ContractTester tester = Answers.with(COUNTER);
        due("steps", 5, tester.explore(200));
        due("the pool", 6, tester.poolSize());
    }

    private static void processedIsNotOpen() {
        about("A pair of a sequence of the pool and a method is open if it has not been processed");
        ContractTester tester = Answers.with("method require 1=0 do x=1;" + FAILS + STAYS + COUNTER);
        for (int left = 3; left > 0; left--) {
            tester.explore(1);
            due("pairs with " + left + " left", left, tester.openPairs());
        }
        tester.explore(1);
        due("pairs of the new sequence", 4, tester.openPairs());
    }

    private static void firstOpenPair() {
        about("the one with the smallest sequence number, and among these the one with the smallest method number");
        ContractTester tester = Answers.with(shifts(2));
        tester.explore(3);
        due("sequence 1 has called method 0", 3, tester.findState(1, 1, 0));
        // Sequence 1 is too long now; there is no other.
        tester.setMaximumLength(1);
        due("no pair is open", INVALID_STATE, tester.explore(1));
        tester.setMaximumLength(3);
        tester.explore(1);
        due("then sequence 1 calls method 1", 4, tester.findState(2, 1, 0));
        tester.explore(1);
        due("then sequence 2 method 0", 5, tester.findState(1, 2, 0));
        tester.explore(1);
        due("then method 1", 6, tester.findState(2, 2, 0));
        tester.explore(1);
        due("then sequence 3 method 0", 7, tester.findState(1, 1, 1));
    }

    private static void skippedPair() {
        about("If the verdict is PRECONDITION, the pair is counted as skipped");
        ContractTester tester = Answers.with("method require 1=0 do x=99+1 ensure 1=0;");
        due("steps", 1, tester.explore(200));
        due("skipped", 1, tester.skippedPairs());
        due("failures", 0, tester.failureCount());
        due("redundant", 0, tester.redundantPairs());
        due("dropped", 0, tester.droppedPairs());
        due("pool", 1, tester.poolSize());
    }

    private static void failureIsAppended() {
        about("the sequence, extended by the call, is appended to the list of failures, which are numbered from 0");
        ContractTester tester = Answers.with(COUNTER + FAILS);
        tester.explore(4);
        due("failures", 2, tester.failureCount());
        due("failure 0 has the failing call alone", 1, tester.failureLength(0));
        due("which is 1", 1, tester.failureCall(0, 0));
        due("failure 1 has one call more", 2, tester.failureLength(1));
        due("which is 0", 0, tester.failureCall(1, 0));
        due("and then 1", 1, tester.failureCall(1, 1));
        due("a failing call leads to no sequence", 3, tester.poolSize());
    }

    private static void moreThan20Failures() {
        about("If there are 20 failures already, the pair is counted as dropped instead");
        ContractTester tester = Answers.with(COUNTER + FAILS.repeat(5));
        due("steps to 19 failures", 23, tester.explore(23));
        due("19 failures", 19, tester.failureCount());
        due("no failure 19 yet", INVALID_ARGUMENT, tester.failureVerdict(19));
        due("one step more", 1, tester.explore(1));
        due("20 failures", 20, tester.failureCount());
        due("none is dropped", 0, tester.droppedPairs());
        due("length of failure 19", 4, tester.failureLength(19));
        due("its last call", 5, tester.failureCall(19, 3));
        due("a step to a new state", 1, tester.explore(1));
        due("is not dropped", 0, tester.droppedPairs());
        due("one failure more", 1, tester.explore(1));
        due("still 20 failures", 20, tester.failureCount());
        due("one is dropped", 1, tester.droppedPairs());
        due("the other steps", 4, tester.explore(200));
        due("all are dropped", 5, tester.droppedPairs());
        due("the list stays", 4, tester.failureLength(19));
        due("no failure 20", INVALID_ARGUMENT, tester.failureLength(20));
    }

    private static void redundantPair() {
        about("If the verdict is OK and a sequence of the pool has the state after the call");
        ContractTester tester = Answers.with(STAYS + "method do x=1;method do x=0;");
        tester.explore(1);
        due("the state of the sequence itself", 1, tester.redundantPairs());
        tester.explore(1);
        due("a new state", 1, tester.redundantPairs());
        tester.explore(1);
        due("the initial state", 2, tester.redundantPairs());
        tester.explore(3);
        due("all states are known", 5, tester.redundantPairs());
        due("pool", 2, tester.poolSize());
    }

    private static void redundantBesideAFullPool() {
        about("a sequence of the pool has the state after the call, the pair is counted as redundant");
        ContractTester tester = Answers.with(shifts(5) + STAYS);
        // Sequences 0 to 6 have all pairs processed, 7 of which stay; sequence 7 has four.
        tester.explore(46);
        due("the pool is full", 40, tester.poolSize());
        due("redundant before", 7, tester.redundantPairs());
        due("dropped before", 0, tester.droppedPairs());
        tester.explore(1);
        due("a new state is dropped", 1, tester.droppedPairs());
        due("and isn't redundant", 7, tester.redundantPairs());
        tester.explore(1);
        due("a known state isn't dropped", 1, tester.droppedPairs());
        due("but redundant", 8, tester.redundantPairs());
    }

    private static void newState() {
        about("If the verdict is OK and no sequence of the pool has this state");
        for (String field : new String[] {"x", "y", "z"}) {
            ContractTester tester = Answers.with("method do " + field + "=1;");
            tester.explore(1);
            due("a state with another " + field, 2, tester.poolSize());
        }
        // A state that only a failing call leads to isn't known.
        ContractTester tester = Answers.with("method do x=1 ensure 1=0;method do x=1;");
        tester.explore(2);
        due("the state of a failing call", 1, tester.findState(1, 0, 0));
    }

    private static void moreThan40Sequences() {
        about("If the pool has 40 sequences already, the pair is counted as dropped instead");
        ContractTester tester = Answers.with(shifts(6));
        tester.explore(39);
        due("the pool is full", 40, tester.poolSize());
        due("none is dropped", 0, tester.droppedPairs());
        due("one step more", 1, tester.explore(1));
        due("one is dropped", 1, tester.droppedPairs());
        due("its state isn't there", NONE, tester.findState(4, 6, 0));
        tester.explore(200);
        due("all are dropped", 201, tester.droppedPairs());
        due("none is redundant", 0, tester.redundantPairs());
    }

    private static void resetOfAll() {
        about("A reset makes the pool consist of the empty sequence alone, removes all failures, sets the numbers");
        ContractTester tester = Answers.explored(ALL_KINDS);
        due("failures before", 20, tester.failureCount());
        due("skipped before", 31, tester.skippedPairs());
        due("redundant before", 94, tester.redundantPairs());
        due("dropped before", 16, tester.droppedPairs());
        due("reset", 40, tester.reset());
        due("pool", 1, tester.poolSize());
        due("sequence 1", INVALID_ARGUMENT, tester.sequenceLength(1));
        due("a state of before", NONE, tester.findState(1, 0, 0));
        due("the initial state", 0, tester.findState(0, 0, 0));
        due("failures", 0, tester.failureCount());
        due("failure 0", INVALID_ARGUMENT, tester.failureLength(0));
        due("skipped", 0, tester.skippedPairs());
        due("redundant", 0, tester.redundantPairs());
        due("dropped", 0, tester.droppedPairs());
        due("open", 6, tester.openPairs());
    }

    private static void resetOfThePairs() {
        about("and makes all pairs unprocessed");
        ContractTester tester = Answers.explored(ALL_KINDS);
        tester.reset();
        due("steps", 200, tester.explore(200));
        due("pool", 40, tester.poolSize());
        due("failures", 20, tester.failureCount());
        due("skipped", 31, tester.skippedPairs());
        due("redundant", 94, tester.redundantPairs());
        due("dropped", 16, tester.droppedPairs());
        due("open", 40, tester.openPairs());
    }

    // Minimized failures

    private static void callsButTheLast() {
        about("The calls of the current sequence except the last one are considered from the first one on");
        ContractTester tester = Answers.explored(FAILS);
        due("a failure of one call", 1, tester.minimizedLength(0));
        due("its call", 0, tester.minimizedCall(0, 0));
        // Sequence 0 0 1 ends with the call that the second 0 makes possible.
        tester = Answers.explored(COUNTER + "method require x=1 do y=99+1;");
        due("a failure of two calls", 2, tester.minimizedLength(0));
        due("its last call", 1, tester.minimizedCall(0, 1));
    }

    private static void okForAllButTheLast() {
        about("has the verdict OK for all its calls but the last one");
        // 0 1 2 fails; without 0, 1 has the verdict PRECONDITION; without 1, 2 has it.
        ContractTester tester = Answers.explored("method do x=1;method require x=1 do y=1;method require y=1 do z=99+1;");
        due("failures", 1, tester.failureCount());
        due("a precondition of an earlier call", 3, tester.minimizedLength(0));
        // Without 0, 1 fails as 2 does.
        tester = Answers.explored("method do x=9;method do y=x ensure y=9;method require y=9 do z=0 ensure 1=0;");
        due("failures", 2, tester.failureCount());
        due("an earlier call that fails", 3, tester.minimizedLength(1));
    }

    private static void verdictOfTheFailure() {
        about("and for its last call the verdict of the failure");
        ContractTester tester = Answers.explored("method do x=99;method do x=x+1 ensure x<0;");
        due("failure 0 is POSTCONDITION", 3, tester.failureVerdict(0));
        due("failure 1 is RANGE", 2, tester.failureVerdict(1));
        due("another verdict", 2, tester.minimizedLength(1));
        due("first call", 0, tester.minimizedCall(1, 0));
        tester = Answers.explored("invariant x<9;method do x=5;method do x=x+5 ensure x<10;");
        due("failure 0 is POSTCONDITION", 3, tester.failureVerdict(0));
        due("the verdict OK", 2, tester.minimizedLength(0));
        tester = Answers.explored("invariant x<9;method do x=4;method do x=x+5 ensure x<10;");
        due("failure 0 is INVARIANT", 4, tester.failureVerdict(0));
        due("the verdict OK", 2, tester.minimizedLength(0));
        tester = Answers.explored("method do x=4;" + FAILS);
        due("failure 1 is POSTCONDITION", 3, tester.failureVerdict(1));
        due("the same verdict", 1, tester.minimizedLength(1));
    }

    private static void searchStartsAgain() {
        about("it becomes the current sequence, and the search starts again with its first call");
        // 0 1 2: 0 can't go before 1 has gone.
        ContractTester tester = Answers.explored("method do x=1;method require x=1 do y=1;method do z=1 ensure z=0;");
        due("failure 2", 3, tester.failureLength(2));
        due("its length", 1, tester.minimizedLength(2));
        due("its call", 2, tester.minimizedCall(2, 0));
        // 0 1 2 3: 2 goes first, then 1, then 0.
        tester = Answers.explored("method do x=1;method require x=1 do y=1;method require y=1 do z=1;method do z=z ensure 1=0;");
        due("failure 3", 4, tester.failureLength(3));
        due("its length", 1, tester.minimizedLength(3));
        due("its call", 3, tester.minimizedCall(3, 0));
    }

    private static void searchFromTheFirst() {
        about("are considered from the first one on");
        // Before 2 either 0 or 1 is needed, and 0 1 is a sequence of the pool.
        ContractTester tester = Answers.explored("method do x=1 do y=1;method do x=1 do z=1;method require x=1 do x=2 ensure 1=0;");
        int failure = -1;
        for (int number = 0; number < tester.failureCount(); number++) {
            if (tester.failureLength(number) == 3 && tester.failureCall(number, 0) == 0) {
                failure = number;
            }
        }
        due("the failure is 0 1 2", 1, tester.failureCall(failure, 1));
        due("its length", 2, tester.minimizedLength(failure));
        due("0 has gone first, so that 1 stays", 1, tester.minimizedCall(failure, 0));
    }

    private static void noCallIsLeft() {
        about("The search ends when no call is left to consider");
        // The longest failure there is: eight calls, all needed.
        ContractTester tester = Answers.with(COUNTER + "method require x=7 do y=99+1;");
        tester.setMaximumLength(8);
        tester.explore(200);
        due("length", 8, tester.failureLength(0));
        due("minimized length", 8, tester.minimizedLength(0));
        for (int index = 0; index < 7; index++) {
            due("call " + index, 0, tester.minimizedCall(0, index));
        }
        due("call 7", 1, tester.minimizedCall(0, 7));
        due("call 8", NONE, tester.minimizedCall(0, 8));
        // Eight calls, of which the last alone is needed.
        tester = Answers.with("init x 1;method require x>0 do x=x+1;" + FAILS);
        tester.setMaximumLength(8);
        tester.explore(200);
        due("length", 8, tester.failureLength(7));
        due("minimized length", 1, tester.minimizedLength(7));
        due("call 0", 1, tester.minimizedCall(7, 0));
    }

    private static void failureDoesNotChange() {
        about("The failure in the list does not change");
        ContractTester tester = Answers.explored(COUNTER + FAILS);
        due("minimized length", 1, tester.minimizedLength(4));
        due("minimized call", 1, tester.minimizedCall(4, 0));
        due("length", 5, tester.failureLength(4));
        for (int index = 0; index < 4; index++) {
            due("call " + index, 0, tester.failureCall(4, index));
        }
        due("call 4", 1, tester.failureCall(4, 4));
        due("verdict", 3, tester.failureVerdict(4));
        due("minimized length again", 1, tester.minimizedLength(4));
    }

    // History and errors

    private static void successfulCallsAreEdits() {
        about("The successful calls of loadComponent, setInitialValue, removeMethod, setMaximumLength, explore and reset are edits");
        isEdit("loadComponent", ContractTester::loadComponent, "");
        isEdit("setInitialValue", tester -> tester.setInitialValue(1, 5), "");
        isEdit("setInitialValue to the same", tester -> tester.setInitialValue(0, 0), "");
        isEdit("removeMethod", tester -> tester.removeMethod(0), COUNTER);
        isEdit("setMaximumLength", tester -> tester.setMaximumLength(8), "");
        isEdit("setMaximumLength to the same", tester -> tester.setMaximumLength(5), "");
        isEdit("explore", tester -> tester.explore(1), COUNTER);
        ContractTester tester = Answers.explored(COUNTER);
        due("reset", 6, tester.reset());
        due("undo of it", 2, tester.undo());
    }

    private static void isEdit(String what, ToIntFunction<ContractTester> call, String component) {
        ContractTester tester = Answers.with(component);
        due(what + " is successful", 1, call.applyAsInt(tester) >= 0 ? 1 : 0);
        due("undo of " + what, 1, tester.undo());
    }

    private static void otherCallsAreNot() {
        about("as they were before the latest edit that has not been undone");
        ContractTester tester = Answers.with(COUNTER);
        tester.setInitialValue(0, 5);
        due("appendCharacter", 1, tester.appendCharacter('0'));
        due("runText", 0, tester.runText());
        due("clearText", 0, tester.clearText());
        due("a load in error", -10, Answers.load(tester, "?"));
        due("setInitialValue in error", INVALID_ARGUMENT, tester.setInitialValue(0, 100));
        due("removeMethod in error", INVALID_ARGUMENT, tester.removeMethod(1));
        due("setMaximumLength in error", INVALID_ARGUMENT, tester.setMaximumLength(9));
        due("explore in error", INVALID_ARGUMENT, tester.explore(0));
        due("reset in error", INVALID_STATE, tester.reset());
        due("undo", 1, tester.undo());
        due("it undoes setInitialValue", 0, tester.finalValue(0, 0));
        due("undo is no edit", 0, tester.undo());
        due("it undoes loadComponent", 0, tester.methodCount());
        due("undo without edits", INVALID_STATE, tester.undo());
    }

    private static void editsThatReset() {
        about("loadComponent, setInitialValue and removeMethod also perform a reset");
        isReset("loadComponent", 3, tester -> Answers.load(tester, shifts(3)));
        isReset("loadComponent of nothing", 0, ContractTester::loadComponent);
        isReset("setInitialValue", 6, tester -> tester.setInitialValue(2, 0));
        isReset("removeMethod", 5, tester -> tester.removeMethod(3));
    }

    private static void isReset(String what, int openPairs, ToIntFunction<ContractTester> call) {
        ContractTester tester = Answers.explored(ALL_KINDS);
        due("pool before " + what, 40, tester.poolSize());
        due("failures before " + what, 20, tester.failureCount());
        due("skipped before " + what, 31, tester.skippedPairs());
        due("redundant before " + what, 94, tester.redundantPairs());
        due("dropped before " + what, 16, tester.droppedPairs());
        call.applyAsInt(tester);
        due("pool after " + what, 1, tester.poolSize());
        due("sequence 1 after " + what, INVALID_ARGUMENT, tester.sequenceLength(1));
        due("failures after " + what, 0, tester.failureCount());
        due("skipped after " + what, 0, tester.skippedPairs());
        due("redundant after " + what, 0, tester.redundantPairs());
        due("dropped after " + what, 0, tester.droppedPairs());
        due("open after " + what, openPairs, tester.openPairs());
        due("reset after " + what, INVALID_STATE, tester.reset());
    }

    private static void undoRestores() {
        about("undo() restores the component, the maximum length and the results of the exploration");
        String component = "init x 3;invariant x<6;" + COUNTER + FAILS + STAYS;
        restores("loadComponent", component, tester -> Answers.load(tester, "init x 9;" + STAYS));
        restores("setInitialValue", component, tester -> tester.setInitialValue(0, -99));
        restores("removeMethod", component, tester -> tester.removeMethod(0));
        restores("setMaximumLength", component, tester -> tester.setMaximumLength(1));
        restores("explore", component, tester -> tester.explore(200));
        restores("reset", component, ContractTester::reset);
    }

    private static void restores(String what, String component, ToIntFunction<ContractTester> call) {
        ContractTester untouched = Answers.with(component);
        ContractTester tester = Answers.with(component);
        for (ContractTester each : new ContractTester[] {untouched, tester}) {
            each.setMaximumLength(4);
            each.explore(7);
        }
        call.applyAsInt(tester);
        due("undo of " + what, 3, tester.undo());
        // The third call breaks the invariant.
        same("after undo of " + what, withText(untouched, "000"), withText(tester, "000"));
    }

    private static void undoRestoresWhatWasWrittenOver() {
        about("the results of the exploration as they were before the latest edit");
        // The components have the same numbers of pairs, but other states, sequences and verdicts.
        String other = FAILS + "method do x=99+1;" + "method do y=1 do z=0 do x=x+2;method do y=2 do z=0 do x=x+2;"
                + "method do y=3 do z=0 do x=x+2;" + COUNTER;
        writtenOver("loadComponent", tester -> Answers.load(tester, other));
        writtenOver("setInitialValue", tester -> tester.setInitialValue(0, 50));
        writtenOver("removeMethod", tester -> tester.removeMethod(0));
        writtenOver("reset", ContractTester::reset);
    }

    private static void writtenOver(String what, ToIntFunction<ContractTester> call) {
        ContractTester tester = Answers.explored(ALL_KINDS);
        call.applyAsInt(tester);
        tester.explore(200);
        due("undo of explore after " + what, 3, tester.undo());
        due("pool before it", 1, tester.poolSize());
        due("undo of " + what, 2, tester.undo());
        due("pool", 40, tester.poolSize());
        due("skipped", 31, tester.skippedPairs());
        due("redundant", 94, tester.redundantPairs());
        due("dropped", 16, tester.droppedPairs());
        due("open", 40, tester.openPairs());
        // The sequences: empty, 0, 1, 2, 3, 0 0, 0 1 and so on to 2 2, then 0 0 0 and so on to 2 2 1.
        for (int first = 0; first < 3; first++) {
            for (int second = 0; second < 3; second++) {
                int sequence = 5 + 3 * first + second;
                due("length of " + sequence, 2, tester.sequenceLength(sequence));
                due("first call of " + sequence, first, tester.sequenceCall(sequence, 0));
                due("second call of " + sequence, second, tester.sequenceCall(sequence, 1));
                due("state of " + sequence, sequence, tester.findState(second + 1, first + 1, 0));
            }
        }
        due("length of sequence 39", 3, tester.sequenceLength(39));
        due("state of sequence 39", 39, tester.findState(2, 3, 3));
        due("failures", 20, tester.failureCount());
        for (int failure = 0; failure < 20; failure++) {
            int length = tester.sequenceLength(failure);
            due("length of failure " + failure, length + 1, tester.failureLength(failure));
            due("last call of failure " + failure, 4, tester.failureCall(failure, length));
            due("verdict of failure " + failure, 3, tester.failureVerdict(failure));
        }
        due("the steps that are left", 40, tester.explore(200));
    }

    private static void undoLeavesTheText() {
        about("it does not affect the text buffer");
        ContractTester tester = Answers.with(COUNTER + COUNTER);
        Answers.append(tester, "01");
        due("undo", 0, tester.undo());
        due("a text that belonged to the component", -10, tester.runText());
        due("its length", 2, tester.clearText());
        due("the text of the load doesn't come back", 0, tester.clearText());
        Answers.append(tester, " ".repeat(200));
        tester.setMaximumLength(3);
        tester.undo();
        due("a full text stays full", LIMIT_REACHED, tester.appendCharacter(' '));
    }

    private static void lastSixEdits() {
        about("The last 6 edits can be undone");
        for (int edits = 0; edits <= 8; edits++) {
            ContractTester tester = new ContractTester();
            for (int edit = 1; edit <= edits; edit++) {
                tester.setInitialValue(0, edit);
            }
            int undone = Math.min(6, edits);
            for (int left = undone - 1; left >= 0; left--) {
                due("undo of " + edits + " with " + left + " left", left, tester.undo());
            }
            due("one undo more of " + edits, INVALID_STATE, tester.undo());
            due("the value that is left of " + edits, edits - undone, tester.finalValue(0, 0));
        }
    }

    private static void ringOfEdits() {
        about("how many edits can still be undone");
        ContractTester tester = new ContractTester();
        for (int edit = 1; edit <= 20; edit++) {
            tester.setInitialValue(0, edit);
        }
        due("undo of 20", 5, tester.undo());
        due("undo of 19", 4, tester.undo());
        for (int edit = 31; edit <= 33; edit++) {
            tester.setInitialValue(0, edit);
        }
        // 16 to 18 and 31 to 33 can be undone now.
        int[] values = {32, 31, 18, 17, 16, 15};
        for (int index = 0; index < values.length; index++) {
            due("undo " + index, 5 - index, tester.undo());
            due("value after undo " + index, values[index], tester.finalValue(0, 0));
        }
        due("undo of 15", INVALID_STATE, tester.undo());
        // The ring of six turns by one place each round.
        for (int round = 1; round <= 13; round++) {
            tester.setInitialValue(1, round);
            tester.setInitialValue(1, 50);
            due("undo in round " + round, round < 6 ? round : 5, tester.undo());
            due("value in round " + round, round, tester.finalValue(0, 1));
        }
    }

    private static void severalErrors() {
        about("INVALID_ARGUMENT is returned rather than INVALID_STATE, and INVALID_STATE rather than LIMIT_REACHED");
        ContractTester tester = new ContractTester();
        due("explore(0) without open pairs", INVALID_ARGUMENT, tester.explore(0));
        due("explore(201) without open pairs", INVALID_ARGUMENT, tester.explore(201));
        due("explore(200) without open pairs", INVALID_STATE, tester.explore(200));
        Answers.append(tester, " ".repeat(200));
        due("-1 to a full text", INVALID_ARGUMENT, tester.appendCharacter(-1));
        due("256 to a full text", INVALID_ARGUMENT, tester.appendCharacter(256));
        due("255 to a full text", LIMIT_REACHED, tester.appendCharacter(255));
        due("call 9 of no sequence", INVALID_ARGUMENT, tester.sequenceCall(1, 9));
        due("call 9 of no failure", INVALID_ARGUMENT, tester.failureCall(0, 9));
        due("call 9 of no minimized failure", INVALID_ARGUMENT, tester.minimizedCall(0, 9));
    }

    private static void errorsChangeNothing() {
        about("A call that returns an error changes nothing");
        refused("appendCharacter(-1)", INVALID_ARGUMENT, tester -> tester.appendCharacter(-1));
        refused("appendCharacter(256)", INVALID_ARGUMENT, tester -> tester.appendCharacter(256));
        refused("setInitialValue(-1, 5)", INVALID_ARGUMENT, tester -> tester.setInitialValue(-1, 5));
        refused("setInitialValue(3, 5)", INVALID_ARGUMENT, tester -> tester.setInitialValue(3, 5));
        refused("setInitialValue(0, 100)", INVALID_ARGUMENT, tester -> tester.setInitialValue(0, 100));
        refused("setInitialValue(0, -100)", INVALID_ARGUMENT, tester -> tester.setInitialValue(0, -100));
        refused("removeMethod(-1)", INVALID_ARGUMENT, tester -> tester.removeMethod(-1));
        refused("removeMethod(4)", INVALID_ARGUMENT, tester -> tester.removeMethod(4));
        refused("complexity(4)", INVALID_ARGUMENT, tester -> tester.complexity(4));
        refused("setMaximumLength(0)", INVALID_ARGUMENT, tester -> tester.setMaximumLength(0));
        refused("setMaximumLength(9)", INVALID_ARGUMENT, tester -> tester.setMaximumLength(9));
        refused("explore(0)", INVALID_ARGUMENT, tester -> tester.explore(0));
        refused("explore(201)", INVALID_ARGUMENT, tester -> tester.explore(201));
        refused("loadComponent()", -10, ContractTester::loadComponent);
        refused("sequenceLength(9)", INVALID_ARGUMENT, tester -> tester.sequenceLength(9));
        refused("sequenceCall(9, 0)", INVALID_ARGUMENT, tester -> tester.sequenceCall(9, 0));
        refused("sequenceCall(1, -1)", INVALID_ARGUMENT, tester -> tester.sequenceCall(1, -1));
        refused("sequenceCall(1, 1)", NONE, tester -> tester.sequenceCall(1, 1));
        refused("finalValue(9, 0)", NONE, tester -> tester.finalValue(9, 0));
        refused("finalValue(0, 3)", NONE, tester -> tester.finalValue(0, 3));
        refused("enabledMethods(9)", INVALID_ARGUMENT, tester -> tester.enabledMethods(9));
        refused("findState(9, 9, 9)", NONE, tester -> tester.findState(9, 9, 9));
        refused("failureLength(9)", INVALID_ARGUMENT, tester -> tester.failureLength(9));
        refused("failureCall(9, 0)", INVALID_ARGUMENT, tester -> tester.failureCall(9, 0));
        refused("failureCall(1, -1)", INVALID_ARGUMENT, tester -> tester.failureCall(1, -1));
        refused("failureCall(1, 2)", NONE, tester -> tester.failureCall(1, 2));
        refused("failureVerdict(9)", INVALID_ARGUMENT, tester -> tester.failureVerdict(9));
        refused("minimizedLength(9)", INVALID_ARGUMENT, tester -> tester.minimizedLength(9));
        refused("minimizedCall(9, 0)", INVALID_ARGUMENT, tester -> tester.minimizedCall(9, 0));
        refused("minimizedCall(1, -1)", INVALID_ARGUMENT, tester -> tester.minimizedCall(1, -1));
        refused("minimizedCall(1, 1)", NONE, tester -> tester.minimizedCall(1, 1));

        Supplier<ContractTester> spoiled = () -> withText(busy(), "00x0");
        leavesAsItWas("runText()", -12, spoiled, ContractTester::runText);
        leavesAsItWas("loadComponent()", -10, spoiled, ContractTester::loadComponent);
        Supplier<ContractTester> full = () -> withText(new ContractTester(), "x".repeat(200));
        leavesAsItWas("appendCharacter(0)", LIMIT_REACHED, full, tester -> tester.appendCharacter(0));
        leavesAsItWas("undo()", INVALID_STATE, full, ContractTester::undo);
        Supplier<ContractTester> closed = () -> withText(Answers.explored(COUNTER + FAILS), "000001");
        leavesAsItWas("explore(1)", INVALID_STATE, closed, tester -> tester.explore(1));
        Supplier<ContractTester> unprocessed = () -> withText(Answers.with(COUNTER + STAYS), "001");
        leavesAsItWas("reset()", INVALID_STATE, unprocessed, ContractTester::reset);
    }

    private static void looksChangeNothing() {
        about("The exploration is not affected");
        leavesAsItWas("methodCount()", 4, ExplorationBoundaryTests::busy, ContractTester::methodCount);
        leavesAsItWas("complexity(3)", 3, ExplorationBoundaryTests::busy, tester -> tester.complexity(3));
        leavesAsItWas("sequenceLength(3)", 3, ExplorationBoundaryTests::busy, tester -> tester.sequenceLength(3));
        leavesAsItWas("enabledMethods(3)", 15, ExplorationBoundaryTests::busy, tester -> tester.enabledMethods(3));
        leavesAsItWas("findState(2, 0, 0)", 2, ExplorationBoundaryTests::busy, tester -> tester.findState(2, 0, 0));
        leavesAsItWas("minimizedLength(2)", 1, ExplorationBoundaryTests::busy, tester -> tester.minimizedLength(2));
        leavesAsItWas("minimizedCall(2, 0)", 1, ExplorationBoundaryTests::busy, tester -> tester.minimizedCall(2, 0));
        Supplier<ContractTester> empty = () -> {
            ContractTester tester = busy();
            tester.clearText();
            return tester;
        };
        leavesAsItWas("appendCharacter and runText", 0, empty, tester -> Answers.run(tester, "00"));
        leavesAsItWas("a failing runText", 11, empty, tester -> Answers.run(tester, "03"));
        leavesAsItWas("appendCharacter and clearText", 1, empty, tester -> {
            tester.appendCharacter('0');
            return tester.clearText();
        });
    }

    /** A few sequences and failures, open pairs, three edits, and the text 0001, whose last call fails. */
    private static ContractTester busy() {
        ContractTester tester = Answers.with("invariant x<9;" + COUNTER + FAILS + STAYS + "method require x>1 do y=x+1;");
        tester.setMaximumLength(3);
        tester.explore(10);
        return withText(tester, "0001");
    }

    private static ContractTester withText(ContractTester tester, String text) {
        tester.clearText();
        Answers.append(tester, text);
        return tester;
    }

    private static void refused(String what, int want, ToIntFunction<ContractTester> call) {
        leavesAsItWas(what, want, ExplorationBoundaryTests::busy, call);
    }

    private static void leavesAsItWas(String what, int want, Supplier<ContractTester> making, ToIntFunction<ContractTester> call) {
        ContractTester untouched = making.get();
        ContractTester tester = making.get();
        due(what, want, call.applyAsInt(tester));
        same("after " + what, untouched, tester);
    }

    /** Looks at all that the two show, then at their texts and at what their undos bring back. */
    private static void same(String what, ContractTester untouched, ContractTester tester) {
        sameResults(what, untouched, tester);
        due("runText " + what, untouched.runText(), tester.runText());
        due("clearText " + what, untouched.clearText(), tester.clearText());
        due("maximum length " + what, untouched.setMaximumLength(2), tester.setMaximumLength(2));
        for (int undo = 0; undo < 7; undo++) {
            due("undo " + undo + " " + what, untouched.undo(), tester.undo());
            due("methods after undo " + undo + " " + what, untouched.methodCount(), tester.methodCount());
            due("x after undo " + undo + " " + what, untouched.finalValue(0, 0), tester.finalValue(0, 0));
            due("pool after undo " + undo + " " + what, untouched.poolSize(), tester.poolSize());
            due("failures after undo " + undo + " " + what, untouched.failureCount(), tester.failureCount());
            due("open after undo " + undo + " " + what, untouched.openPairs(), tester.openPairs());
        }
    }

    private static void sameResults(String what, ContractTester untouched, ContractTester tester) {
        due("methods " + what, untouched.methodCount(), tester.methodCount());
        for (int method = 0; method < untouched.methodCount(); method++) {
            due("complexity of " + method + " " + what, untouched.complexity(method), tester.complexity(method));
        }
        due("open " + what, untouched.openPairs(), tester.openPairs());
        due("skipped " + what, untouched.skippedPairs(), tester.skippedPairs());
        due("redundant " + what, untouched.redundantPairs(), tester.redundantPairs());
        due("dropped " + what, untouched.droppedPairs(), tester.droppedPairs());
        due("pool " + what, untouched.poolSize(), tester.poolSize());
        for (int sequence = 0; sequence < untouched.poolSize(); sequence++) {
            String name = " of sequence " + sequence + " " + what;
            due("length" + name, untouched.sequenceLength(sequence), tester.sequenceLength(sequence));
            for (int index = 0; index < untouched.sequenceLength(sequence); index++) {
                due("call " + index + name, untouched.sequenceCall(sequence, index), tester.sequenceCall(sequence, index));
            }
            for (int field = 0; field < 3; field++) {
                due("field " + field + name, untouched.finalValue(sequence, field), tester.finalValue(sequence, field));
            }
            due("enabled methods" + name, untouched.enabledMethods(sequence), tester.enabledMethods(sequence));
        }
        due("failures " + what, untouched.failureCount(), tester.failureCount());
        for (int failure = 0; failure < untouched.failureCount(); failure++) {
            String name = " of failure " + failure + " " + what;
            due("length" + name, untouched.failureLength(failure), tester.failureLength(failure));
            for (int index = 0; index < untouched.failureLength(failure); index++) {
                due("call " + index + name, untouched.failureCall(failure, index), tester.failureCall(failure, index));
            }
            due("verdict" + name, untouched.failureVerdict(failure), tester.failureVerdict(failure));
            due("minimized length" + name, untouched.minimizedLength(failure), tester.minimizedLength(failure));
        }
    }
}
