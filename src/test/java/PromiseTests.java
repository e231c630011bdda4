/** For each promise of the document, in its order: ordinary inputs, the edges, and wrong inputs. */
public final class PromiseTests {
    private static final int INVALID_ARGUMENT = -1;
    private static final int INVALID_STATE = -2;
    private static final int LIMIT_REACHED = -3;
    private static final int NONE = -1000;

    private static final int[] WRONG_NUMBERS = {-1, -2, 1 << 20, Integer.MAX_VALUE, Integer.MIN_VALUE};

    /** Three methods that count a field each: the pool is full long before the pairs are processed. */
    private static final String COUNTERS = "method do x=x+1;method do y=y+1;method do z=z+1;";
    private static final String ALWAYS_FAILS = "method do x=0 ensure 1=0;";

    /** Failure 2 is 0 1 2, where 1 can't be called without 0, and 2 fails by itself. */
    private static final String LADDER =
            "method do x=1;method require x=1 do y=1;method do z=1 ensure z=0;";

    private static final Answers ANSWERS = new Answers();

    public static void main(String[] arguments) {
        newObject();
        appendCharacter();
        clearText();
        loadComponent();
        loadedComponent();
        textsInError();
        setInitialValue();
        removeMethod();
        methodCount();
        complexity();
        runText();
        verdicts();
        setMaximumLength();
        explore();
        orderOfSteps();
        reset();
        undo();
        undoOfEachEdit();
        undoToAnotherComponent();
        openPairs();
        skippedPairs();
        redundantPairs();
        droppedPairs();
        poolSize();
        sequenceLengthAndCall();
        finalValue();
        enabledMethods();
        findState();
        failureCount();
        failureLengthAndCall();
        failureVerdict();
        minimizedLengthAndCall();
        minimizedKeepsTheVerdict();
        minimizedFromTheFirstCallOn();
        ANSWERS.finish("PromiseTests");
    }

    private static void due(String what, long want, long got) {
        ANSWERS.due(what, want, got);
    }

    // 1
    private static void newObject() {
        ContractTester tester = new ContractTester();
        due("new: methodCount", 0, tester.methodCount());
        due("new: complexity(0)", INVALID_ARGUMENT, tester.complexity(0));
        for (int field = 0; field < 3; field++) {
            due("new: finalValue of field " + field, 0, tester.finalValue(0, field));
        }
        due("new: poolSize", 1, tester.poolSize());
        due("new: sequenceLength(0)", 0, tester.sequenceLength(0));
        due("new: openPairs", 0, tester.openPairs());
        due("new: skippedPairs", 0, tester.skippedPairs());
        due("new: redundantPairs", 0, tester.redundantPairs());
        due("new: droppedPairs", 0, tester.droppedPairs());
        due("new: failureCount", 0, tester.failureCount());
        due("new: undo", INVALID_STATE, tester.undo());
        due("new: reset", INVALID_STATE, tester.reset());
        due("new: explore", INVALID_STATE, tester.explore(1));
        due("new: clearText", 0, tester.clearText());
        due("new: runText", 0, tester.runText());
        due("new: setMaximumLength", 5, tester.setMaximumLength(5));
        due("new: setInitialValue", 100, tester.setInitialValue(0, 0));
    }

    // 2
    private static void appendCharacter() {
        ContractTester tester = new ContractTester();
        due("append 0", 1, tester.appendCharacter(0));
        due("append 255", 2, tester.appendCharacter(255));
        due("append -1", INVALID_ARGUMENT, tester.appendCharacter(-1));
        due("append 256", INVALID_ARGUMENT, tester.appendCharacter(256));
        for (int wrong : WRONG_NUMBERS) {
            due("append " + wrong, INVALID_ARGUMENT, tester.appendCharacter(wrong));
        }
        for (int length = 3; length <= 200; length++) {
            due("append up to " + length, length, tester.appendCharacter('a'));
        }
        due("append to a full text", LIMIT_REACHED, tester.appendCharacter('a'));
        due("append 256 to a full text", INVALID_ARGUMENT, tester.appendCharacter(256));
        due("clear of a full text", 200, tester.clearText());
        due("append after clear", 1, tester.appendCharacter('a'));
        due("append is no edit", INVALID_STATE, tester.undo());
    }

    // 3
    private static void clearText() {
        ContractTester tester = new ContractTester();
        Answers.append(tester, "method");
        due("clear", 6, tester.clearText());
        due("clear again", 0, tester.clearText());
        due("clear is no edit", INVALID_STATE, tester.undo());
        due("load after clear", 0, tester.loadComponent());
    }

    // 4
    private static void loadComponent() {
        ContractTester tester = new ContractTester();
        due("load of nothing", 0, tester.loadComponent());
        due("load of spaces", 0, Answers.load(tester, "   "));
        due("load of no method", 0, Answers.load(tester, "init x 1;invariant x<9;"));
        due("load of one", 1, Answers.load(tester, "method do x=1;"));
        due("load empties the text", 0, tester.clearText());
        due("load of two", 2, Answers.load(tester, " method do x=1 ; invariant x>0;method  do x=2;init y 1; "));
        due("load of six", 6, Answers.load(tester, "method do x=1;".repeat(6)));

        tester.setMaximumLength(3);
        tester.explore(4);
        due("load after explore", 1, Answers.load(tester, "method do x=x+1;"));
        due("load resets the pool", 1, tester.poolSize());
        due("load resets the pairs", 1, tester.openPairs());
        due("load resets the redundant pairs", 0, tester.redundantPairs());
        due("load keeps the maximum length", 3, tester.setMaximumLength(3));

        due("load in error", -10 - 7, Answers.load(tester, "method x"));
        due("load in error changes nothing", 1, tester.methodCount());
        due("load in error keeps the text", 8, tester.clearText());
    }

    // 4
    private static void loadedComponent() {
        ContractTester tester = Answers.with("init x 7;init y -05;init z - 99;init x 08;");
        due("init x", 8, tester.finalValue(0, 0));
        due("init y", -5, tester.finalValue(0, 1));
        due("init z", -99, tester.finalValue(0, 2));
        Answers.load(tester, "init y 99;");
        due("no init of x", 0, tester.finalValue(0, 0));
        due("init y again", 99, tester.finalValue(0, 1));
        due("no init of z", 0, tester.finalValue(0, 2));

        String six = "method do x=1;".repeat(6);
        due("greatest numbers of invariants and methods", 6,
                Answers.load(tester, "invariant x<1;".repeat(3) + six));
        due("greatest numbers of clauses", 1, Answers.load(tester,
                "method require x<1 require y=1 do x=1 do y=1 do z=1 ensure old x<1 ensure 1>old y;"));
        due("lexemes without spaces", 1,
                Answers.load(tester, "init x5;method require x>-1do x=-5--5do y=z+z;"));
        due("they mean the same", 5, tester.finalValue(0, 0));
    }

    // 4; the sign ^ marks the first character that is in error
    private static void textsInError() {
        String[] texts = {
            "^;", "^x", "^Method do x=1;", "^methods do x=1;", "^\tmethod do x=1;", "^\u00a0", "^\u00ff", "^\u0000",
            "^require do x=1;", "^do do x=1;", "method ^method x<1 do x=1;", "method do x=1 ^old x=1;",
            "method do x=1 ensure ^ensure x=1;", "method ^init x 1;", "^" + ";".repeat(200), "^" + "9".repeat(200),
            "^xnit x 1;", "init ^;", "init ^w 1;", "init ^1 1;", "init ^xy 1;", "^initx 1;", "init x ^x;", "init x ^123;", "init x ^007;",
            "init x -^-1;", "init x ^+1;", "init x 1 ^2;", "init x 1 ^init", "init x -^;", "init x ^;",
            "init ^", "init x ^", "init x -^", "init x 1^", "init x 1  ^", "init x 1;^;", "init x 1; ^x", "init x 1;^1",
            "invariant ^", "invariant ^;", "invariant x^", "invariant x^;", "invariant x^+1;", "invariant x<^",
            "invariant x<^;", "invariant x<^<", "invariant x<y^<z;", "invariant x<y^+z;", "invariant x^-1<y;",
            "invariant ^old x<1;", "invariant x<^old x;", "invariant x<^100;", "invariant x<- ^y;", "invariant x<y^",
            "invariant x^!1;", "invariant x<1;invariant x<1;invariant x<1;^invariant x<1;",
            "method ^", "method ^;", "method ^x", "method ^ensure x=1", "method require ^", "method require ^do",
            "method require x<1^", "method require x<1 ^ensure x<1", "method require x<1^;",
            "method require ^old x=1 do x=1;", "method require x=^old x do x=1;",
            "method require x<1 require y<1 ^require z<1 do x=1;",
            "method do ^", "method do ^1=x;", "method do ^xy=1;", "method do x^", "method do x^<1;", "method do x=^",
            "method do x=^;", "method do x=^old x;", "method do x=^+1;", "method do x=1^", "method do x=1 ^2;",
            "method do x=1+^", "method do x=1+^;", "method do x=1+^old x;", "method do x=1+2^+3;",
            "method do x=-1-^+1;", "method do x=1+2^", "method do x=1^=1;", "method do x=^aa;", "method do x=^w;",
            "method do ^zx=1;", "method do x=^zz;", "method do x=1 do ^;", "method do x=1 do x^;",
            "method do x=1 do x=^;", "method do x=1 do x=1-^;",
            "method do x=1 do x=1 do x=1 ^do x=1;", "method do x=1 ^require x=1;", "method do x=1 ^method",
            "method do x=1 ensure ^", "method do x=1 ensure ^do x=1;", "method do x=1 ensure x=1^",
            "method do x=1 ensure x=1 ^do x=1;", "method do x=1 ensure x=1 ^require x=1;",
            "method do x=1 ensure old ^1=x;", "method do x=1 ensure old ^old x=1;", "method do x=1 ensure old^",
            "method do x=1 ensure old x=old ^", "method do x=1 ensure old x=old ^-1;", "method do x=1 ensure ^oldx=1;",
            "method do x=1 ensure x=1 ensure x=1 ^ensure x=1;",
            "method do x=1;method do x=1;method do x=1;method do x=1;method do x=1;method do x=1;^method do x=1;",
            " ".repeat(199) + "^q", "init x" + " ".repeat(194) + "^",
        };
        for (String marked : texts) {
            int offset = marked.indexOf('^');
            String text = marked.substring(0, offset) + marked.substring(offset + 1);
            ContractTester tester = Answers.with("init x 3;method do x=1;");
            due("load of '" + marked + "'", -10 - offset, Answers.load(tester, text));
            due("text after '" + marked + "'", text.length(), tester.clearText());
            due("method count after '" + marked + "'", 1, tester.methodCount());
            due("initial value after '" + marked + "'", 3, tester.finalValue(0, 0));
            due("undo after '" + marked + "'", 0, tester.undo());
        }
    }

    // 5
    private static void setInitialValue() {
        ContractTester tester = Answers.with("init y -7;invariant x<9;method do x=x+1;");
        tester.explore(2);
        due("set x", 100, tester.setInitialValue(0, 99));
        due("set resets", 1, tester.poolSize());
        due("set x shows", 99, tester.finalValue(0, 0));
        due("set keeps y", -7, tester.finalValue(0, 1));
        due("set keeps the methods", 1, tester.methodCount());
        due("set x again", 199, tester.setInitialValue(0, -99));
        due("set x back", 1, tester.setInitialValue(0, 8));
        due("set y", 93, tester.setInitialValue(1, 2));
        due("set z", 100, tester.setInitialValue(2, 3));
        due("set z again", 103, tester.setInitialValue(2, 3));
        due("findState of the new values", 0, tester.findState(8, 2, 3));
        due("set keeps the invariants", 4, Answers.run(tester, "0"));

        tester = Answers.with("method do x=x+1;");
        tester.explore(2);
        due("set of field -1", INVALID_ARGUMENT, tester.setInitialValue(-1, 0));
        due("set of field 3", INVALID_ARGUMENT, tester.setInitialValue(3, 0));
        due("set to 100", INVALID_ARGUMENT, tester.setInitialValue(0, 100));
        due("set to -100", INVALID_ARGUMENT, tester.setInitialValue(0, -100));
        for (int wrong : WRONG_NUMBERS) {
            due("set of field " + wrong, INVALID_ARGUMENT, tester.setInitialValue(wrong, 0));
        }
        due("set to the greatest", INVALID_ARGUMENT, tester.setInitialValue(0, Integer.MAX_VALUE));
        due("set to the least", INVALID_ARGUMENT, tester.setInitialValue(0, Integer.MIN_VALUE));
        due("a wrong set resets nothing", 3, tester.poolSize());
        due("a wrong set is no edit", 1, tester.undo());
    }

    // 6
    private static void removeMethod() {
        ContractTester tester = Answers.with(
                "init x 4;invariant x<6;method do x=1;method require x=4 do x=x+1;method do y=1 do z=2 do x=9;");
        tester.explore(2);
        due("remove 3 of 3", INVALID_ARGUMENT, tester.removeMethod(3));
        for (int wrong : WRONG_NUMBERS) {
            due("remove " + wrong, INVALID_ARGUMENT, tester.removeMethod(wrong));
        }
        due("a wrong remove resets nothing", 3, tester.poolSize());
        due("remove 0", 2, tester.removeMethod(0));
        due("remove resets", 1, tester.poolSize());
        due("remove resets the pairs", 2, tester.openPairs());
        due("remove moves 1 to 0", 3, tester.complexity(0));
        due("remove moves 2 to 1", 3, tester.complexity(1));
        due("remove keeps the initial values", 4, tester.finalValue(0, 0));
        due("remove keeps the invariants", 4, Answers.run(tester, "1"));
        due("the moved method runs", 11, Answers.run(tester, "00"));
        due("remove 1", 1, tester.removeMethod(1));
        due("remove 1 again", INVALID_ARGUMENT, tester.removeMethod(1));
        due("remove the last", 0, tester.removeMethod(0));
        due("remove of none", INVALID_ARGUMENT, tester.removeMethod(0));
        due("undo of remove", 4, tester.undo());
        due("undo brings the method back", 1, tester.methodCount());
    }

    // 7
    private static void methodCount() {
        ContractTester tester = new ContractTester();
        for (int count = 0; count <= 6; count++) {
            Answers.load(tester, "method do x=1;".repeat(count));
            due("methodCount of " + count, count, tester.methodCount());
        }
        tester.removeMethod(2);
        due("methodCount after remove", 5, tester.methodCount());
    }

    // 8
    private static void complexity() {
        ContractTester tester = Answers.with("method do x=1;method do x=-1;method do x=1+1;"
                + "method require x<1 require x<2 do x=x+1 do y=y--1 do z=-1 ensure x>1 ensure x>2;");
        due("one assignment", 1, tester.complexity(0));
        due("a negative number", 1, tester.complexity(1));
        due("a sum", 2, tester.complexity(2));
        due("all clauses", 9, tester.complexity(3));
        due("complexity(4)", INVALID_ARGUMENT, tester.complexity(4));
        for (int wrong : WRONG_NUMBERS) {
            due("complexity of " + wrong, INVALID_ARGUMENT, tester.complexity(wrong));
        }
        tester.removeMethod(0);
        due("complexity after remove", 2, tester.complexity(1));
        due("complexity of the removed", INVALID_ARGUMENT, tester.complexity(3));
    }

    // 9
    private static void runText() {
        ContractTester tester = Answers.with("invariant x>-1;method require x<2 do x=x+1;method do y=y+60;"
                + "method do z=1 ensure z=old z;method do x=-5;");
        due("run of nothing", 0, Answers.run(tester, ""));
        due("run of OK calls", 0, Answers.run(tester, "001"));
        due("run empties the text", 0, tester.clearText());
        due("run up to a precondition", 21, Answers.run(tester, "0002"));
        due("run empties the text after a failure", 0, tester.clearText());
        due("run starts anew", 12, Answers.run(tester, "110"));
        due("run up to a postcondition", 3, Answers.run(tester, "2"));
        due("run up to an invariant", 14, Answers.run(tester, "03"));
        due("run of no method", -10 - 1, Answers.run(tester, "04"));
        due("run of no method keeps the text", 2, tester.clearText());
        due("run of a space", -10, Answers.run(tester, " 0"));
        due("run of the same text", -10, tester.runText());
        tester.clearText();
        due("run of a letter behind a failing call", -10 - 4, Answers.run(tester, "2222x"));
        tester.clearText();
        due("run of character 255", -10 - 1, Answers.run(tester, "0\u00ff"));
        tester.clearText();
        due("run of '/'", -10, Answers.run(tester, "/"));
        tester.clearText();
        due("run of ':'", -10, Answers.run(tester, ":"));
        tester.clearText();
        due("run leaves the pool", 1, tester.poolSize());
        due("run leaves the pairs", 4, tester.openPairs());
        due("run leaves the failures", 0, tester.failureCount());
        due("run is no edit", 0, tester.undo());
        due("run without methods", -10, Answers.run(tester, "0"));

        tester = Answers.with("method do y=y;method require x=1 do y=1;");
        due("run of 200 calls", 0, Answers.run(tester, "0".repeat(200)));
        due("run up to the last call", 1991, Answers.run(tester, "0".repeat(199) + "1"));
    }

    // 9: the verdicts, in the order in which they are found
    private static void verdicts() {
        verdict("a precondition comes first", 1, "invariant 1=0;method require 1=0 do x=99+1 ensure 1=0;");
        verdict("the second precondition counts", 1, "method require 1=1 require 1=0 do x=1;");
        verdict("a range comes next", 2, "invariant 1=0;method do x=99+1 ensure 1=0;");
        verdict("a postcondition comes next", 3, "invariant 1=0;method do x=1 ensure 1=0;");
        verdict("the second postcondition counts", 3, "method do x=1 ensure 1=1 ensure 1=0;");
        verdict("an invariant comes last", 4, "invariant 1=0;method do x=1 ensure 1=1;");
        verdict("the second invariant counts", 4, "invariant 1=1;invariant 1=0;method do x=1;");
        verdict("the third invariant counts", 4, "invariant 1=1;invariant 1=1;invariant 1=0;method do x=1;");
        verdict("99 is in the range", 0, "method do x=98+1;");
        verdict("-99 is in the range", 0, "method do x=-98-1;");
        verdict("100 is out of it", 2, "method do x=98+2;");
        verdict("-100 is out of it", 2, "method do x=-98-2;");
        verdict("each result is looked at", 2, "init x 99;method do x=x+1 do x=x-1;");
        verdict("the third result is looked at", 2, "method do x=1 do y=2 do z=99--1;");
        verdict("old is before the call", 0, "init x 5;method do x=7 ensure old x=5 ensure x=7;");
        verdict("old y and old z", 0, "init y 5;init z 6;method do y=7 do z=8 ensure old y=5 ensure old z=6;");
        verdict("old on the right", 0, "init z 6;method do z=8 ensure z>old z ensure 6=old z;");
        verdict("assignments see the earlier ones", 0, "init x 1;init y 2;method do x=y do y=x ensure x=2 ensure y=2;");
        verdict("a sum of fields", 0, "init x 3;init y 4;method do z=x+y ensure z=7;");
        verdict("a difference of fields", 0, "init x 3;init y 4;method do z=x-y ensure z=-1;");
        verdict("a negative number is taken away", 0, "method do z=-5--7 ensure z=2;");
        verdict("less", 3, "method do x=1 ensure x<1;");
        verdict("less holds", 0, "method do x=1 ensure x<2;");
        verdict("greater", 3, "method do x=1 ensure x>1;");
        verdict("greater holds", 0, "method do x=1 ensure x>-1;");
        verdict("equal", 3, "method do x=1 ensure x=2;");
        verdict("the initial state may break an invariant", 0, "init x 5;invariant x<3;method do x=1;");
        verdict("a call may not leave it broken", 4, "init x 5;invariant x<3;method do y=1;");
    }

    private static void verdict(String what, int want, String component) {
        due(what, want, Answers.run(Answers.with(component), "0"));
    }

    // 10
    private static void setMaximumLength() {
        ContractTester tester = Answers.with("method do x=x+1;");
        due("set to 0", INVALID_ARGUMENT, tester.setMaximumLength(0));
        due("set to 9", INVALID_ARGUMENT, tester.setMaximumLength(9));
        for (int wrong : WRONG_NUMBERS) {
            due("set to " + wrong, INVALID_ARGUMENT, tester.setMaximumLength(wrong));
        }
        due("set to 1", 5, tester.setMaximumLength(1));
        due("explore up to length 1", 1, tester.explore(200));
        due("pool of length 1", 2, tester.poolSize());
        due("set to 2", 1, tester.setMaximumLength(2));
        due("set resets nothing", 2, tester.poolSize());
        due("the processed pair stays processed", 1, tester.openPairs());
        due("explore up to length 2", 1, tester.explore(200));
        due("set to 8", 2, tester.setMaximumLength(8));
        due("explore up to length 8", 6, tester.explore(200));
        due("pool of length 8", 9, tester.poolSize());
        due("set back to 1", 8, tester.setMaximumLength(1));
        due("the pool stays", 9, tester.poolSize());
        due("no pair is open", 0, tester.openPairs());
        due("set is an edit", 5, tester.undo());
        due("set to the same", 8, tester.setMaximumLength(8));
        due("set to the same is an edit", 5, tester.undo());
    }

    // 11
    private static void explore() {
        ContractTester tester = Answers.with(COUNTERS);
        due("explore(0)", INVALID_ARGUMENT, tester.explore(0));
        due("explore(201)", INVALID_ARGUMENT, tester.explore(201));
        for (int wrong : WRONG_NUMBERS) {
            due("explore of " + wrong, INVALID_ARGUMENT, tester.explore(wrong));
        }
        due("a wrong explore does nothing", 3, tester.openPairs());
        due("explore(1)", 1, tester.explore(1));
        due("explore(3)", 3, tester.explore(3));
        due("pool after 4 steps", 5, tester.poolSize());
        due("explore(200)", 101, tester.explore(200));
        due("explore without open pairs", INVALID_STATE, tester.explore(1));
        due("explore(0) without open pairs", INVALID_ARGUMENT, tester.explore(0));
        due("a failed explore is no edit", 3, tester.undo());

        tester = Answers.with("method do x=x+1;".repeat(6));
        tester.setMaximumLength(8);
        due("48 pairs", 48, tester.explore(200));

        tester = Answers.with("method do x=x+1;method do x=x+2;method do y=y+1;method do y=y+2;method do z=z+1;method do z=z+2;");
        tester.setMaximumLength(8);
        due("200 steps at most", 200, tester.explore(200));
        due("the pairs that are left", 40, tester.explore(200));
    }

    // 11
    private static void orderOfSteps() {
        ContractTester tester = Answers.with("method require x=0 do x=1;method do y=y ensure x=1;method do z=x+5;");
        // The state 0 0 0: method 0 leads to 1 0 0, method 1 fails, method 2 leads to 0 0 5.
        tester.explore(1);
        due("method 0 comes first", 1, tester.findState(1, 0, 0));
        due("and nothing else", 2, tester.poolSize());
        tester.explore(1);
        due("method 1 comes next", 1, tester.failureCount());
        tester.explore(1);
        due("method 2 comes then", 2, tester.findState(0, 0, 5));
        // The state 1 0 0: method 0 can't be called, method 1 changes nothing, method 2 leads to 1 0 6.
        tester.explore(1);
        due("sequence 1 comes next", 1, tester.skippedPairs());
        tester.explore(1);
        due("its method 1", 1, tester.redundantPairs());
        tester.explore(1);
        due("its method 2", 3, tester.findState(1, 0, 6));
        due("it was appended to sequence 1", 0, tester.sequenceCall(3, 0));
        due("with method 2", 2, tester.sequenceCall(3, 1));
        // The state 0 0 5: method 0 leads to 1 0 5.
        tester.explore(1);
        due("sequence 2 comes then", 4, tester.findState(1, 0, 5));
        due("its first call", 2, tester.sequenceCall(4, 0));
        due("its second call", 0, tester.sequenceCall(4, 1));
    }

    // 12
    private static void reset() {
        ContractTester tester = Answers.with(COUNTERS.substring(0, 32) + ALWAYS_FAILS + "method require 1=0 do x=1;");
        due("reset of nothing", INVALID_STATE, tester.reset());
        tester.setMaximumLength(2);
        due("reset after setMaximumLength", INVALID_STATE, tester.reset());
        tester.explore(12);
        due("pool before", 6, tester.poolSize());
        due("failures before", 3, tester.failureCount());
        due("skipped before", 3, tester.skippedPairs());
        due("redundant before", 1, tester.redundantPairs());
        due("reset", 6, tester.reset());
        due("pool after", 1, tester.poolSize());
        due("its sequence", 0, tester.sequenceLength(0));
        due("failures after", 0, tester.failureCount());
        due("skipped after", 0, tester.skippedPairs());
        due("redundant after", 0, tester.redundantPairs());
        due("open after", 4, tester.openPairs());
        due("reset keeps the maximum length", 2, tester.setMaximumLength(2));
        due("reset again", INVALID_STATE, tester.reset());
        // The edits: load, setMaximumLength, explore, reset, setMaximumLength.
        due("a failed reset is no edit", 4, tester.undo());
        due("undo of reset", 3, tester.undo());
        due("pool again", 6, tester.poolSize());

        tester = Answers.with("method require 1=0 do x=1;");
        tester.explore(1);
        due("reset of one skipped pair", 1, tester.reset());

        tester = Answers.with(COUNTERS + ALWAYS_FAILS);
        tester.explore(200);
        due("reset of a full pool", 40, tester.reset());
        due("dropped after", 0, tester.droppedPairs());
        due("explore again", 140, tester.explore(200));
        due("pool again", 40, tester.poolSize());
        due("dropped again", 50, tester.droppedPairs());
    }

    // 13
    private static void undo() {
        ContractTester tester = new ContractTester();
        for (int edit = 1; edit <= 8; edit++) {
            tester.setInitialValue(0, edit);
        }
        Answers.append(tester, "abc");
        for (int left = 5; left >= 0; left--) {
            due("undo with " + left + " left", left, tester.undo());
            due("value with " + left + " left", left + 2, tester.finalValue(0, 0));
        }
        due("a seventh undo", INVALID_STATE, tester.undo());
        due("it changes nothing", 2, tester.finalValue(0, 0));
        due("undo leaves the text", 3, tester.clearText());

        tester.setInitialValue(0, 50);
        tester.setInitialValue(0, 51);
        due("undo after new edits", 1, tester.undo());
        tester.setInitialValue(0, 52);
        due("undo of the edit after an undo", 1, tester.undo());
        due("its value", 50, tester.finalValue(0, 0));
        due("undo of the one before", 0, tester.undo());
        due("its value", 2, tester.finalValue(0, 0));
        due("nothing more", INVALID_STATE, tester.undo());
    }

    // 13
    private static void undoOfEachEdit() {
        ContractTester tester = Answers.with(LADDER);
        tester.explore(3);
        tester.setMaximumLength(7);
        tester.explore(6);
        tester.reset();
        tester.removeMethod(0);
        due("undo of remove", 5, tester.undo());
        due("methods", 3, tester.methodCount());
        due("pool", 1, tester.poolSize());
        due("undo of reset", 4, tester.undo());
        due("pool", 3, tester.poolSize());
        due("failures", 3, tester.failureCount());
        due("length of failure 2", 3, tester.failureLength(2));
        due("call 1 of failure 2", 1, tester.failureCall(2, 1));
        due("verdict of failure 2", 3, tester.failureVerdict(2));
        due("minimized failure 2", 1, tester.minimizedLength(2));
        due("skipped", 1, tester.skippedPairs());
        due("redundant", 3, tester.redundantPairs());
        due("open", 0, tester.openPairs());
        due("undo of explore", 3, tester.undo());
        due("pool", 2, tester.poolSize());
        due("skipped", 1, tester.skippedPairs());
        due("redundant", 0, tester.redundantPairs());
        due("open", 3, tester.openPairs());
        due("explore again", 6, tester.explore(9));
        due("pool", 3, tester.poolSize());
        due("undo of explore again", 3, tester.undo());
        due("undo of setMaximumLength", 2, tester.undo());
        due("maximum length", 5, tester.setMaximumLength(5));
        due("undo of that", 2, tester.undo());
        due("undo of the first explore", 1, tester.undo());
        due("pool", 1, tester.poolSize());
        due("open", 3, tester.openPairs());
        due("undo of load", 0, tester.undo());
        due("methods", 0, tester.methodCount());
        due("nothing more", INVALID_STATE, tester.undo());

        tester = Answers.with("init x 1;invariant x<2;method do x=2;");
        Answers.load(tester, "method do x=2;");
        due("undo of load", 1, tester.undo());
        due("the text stays empty", 0, tester.clearText());
        due("the initial value of before", 1, tester.finalValue(0, 0));
        due("the invariant of before", 4, Answers.run(tester, "0"));
        due("undo of the first load", 0, tester.undo());
        due("methods", 0, tester.methodCount());
    }

    // 13
    private static void undoToAnotherComponent() {
        ContractTester tester = Answers.with(COUNTERS + ALWAYS_FAILS);
        tester.explore(200);
        Answers.load(tester, "init x 7;method do x=99+1;method do x=x-2 do y=1;");
        tester.setMaximumLength(8);
        tester.explore(200);
        due("failures of the other component", 8, tester.failureCount());
        due("undo of explore", 4, tester.undo());
        due("undo of setMaximumLength", 3, tester.undo());
        due("undo of load", 2, tester.undo());
        due("pool", 40, tester.poolSize());
        due("dropped", 50, tester.droppedPairs());
        due("redundant", 31, tester.redundantPairs());
        due("length of sequence 39", 5, tester.sequenceLength(39));
        due("length of sequence 3", 1, tester.sequenceLength(3));
        due("call 0 of sequence 3", 2, tester.sequenceCall(3, 0));
        due("state of sequence 3", 1, tester.finalValue(3, 2));
        due("the initial state", 0, tester.findState(0, 0, 0));
        due("failures", 20, tester.failureCount());
        for (int failure = 0; failure < 20; failure++) {
            int length = tester.sequenceLength(failure);
            due("length of failure " + failure, length + 1, tester.failureLength(failure));
            due("last call of failure " + failure, 3, tester.failureCall(failure, length));
            due("verdict of failure " + failure, 3, tester.failureVerdict(failure));
        }
        due("open", 0, tester.openPairs());
    }

    // 14
    private static void openPairs() {
        ContractTester tester = Answers.with(COUNTERS);
        due("open at first", 3, tester.openPairs());
        tester.explore(1);
        due("open after a step", 5, tester.openPairs());
        tester.setMaximumLength(1);
        due("open up to length 1", 2, tester.openPairs());
        tester.explore(2);
        due("none is open", 0, tester.openPairs());
        tester.setMaximumLength(2);
        due("open up to length 2", 9, tester.openPairs());
        tester.explore(200);
        due("none is open", 0, tester.openPairs());
        tester.setMaximumLength(3);
        due("open up to length 3", 18, tester.openPairs());
        due("open without methods", 0, new ContractTester().openPairs());
    }

    // 15
    private static void skippedPairs() {
        ContractTester tester = Answers.with("method require x=0 do x=1;method require x=1 do y=1;");
        due("skipped at first", 0, tester.skippedPairs());
        tester.explore(2);
        due("skipped one", 1, tester.skippedPairs());
        tester.explore(1);
        due("skipped two", 2, tester.skippedPairs());
        tester.explore(1);
        due("an OK call isn't skipped", 2, tester.skippedPairs());
        due("nor redundant", 0, tester.redundantPairs());
        due("nor a failure", 0, tester.failureCount());
        due("but in the pool", 3, tester.poolSize());
    }

    // 16
    private static void redundantPairs() {
        ContractTester tester = Answers.with("method do y=y;method do x=1;method do x=1;method do x=0;");
        tester.explore(1);
        due("a state that stays", 1, tester.redundantPairs());
        tester.explore(1);
        due("a new state", 1, tester.redundantPairs());
        tester.explore(2);
        due("a state of the pool", 3, tester.redundantPairs());
        tester.explore(4);
        due("all states are known", 7, tester.redundantPairs());

        tester = Answers.with(COUNTERS);
        tester.explore(200);
        due("redundant beside a full pool", 31, tester.redundantPairs());
    }

    // 17
    private static void droppedPairs() {
        ContractTester tester = Answers.with(COUNTERS);
        // 40 sequences: those of up to 4 calls, and 5 of the 21 states that 5 calls lead to.
        due("steps", 105, tester.explore(200));
        due("pool", 40, tester.poolSize());
        due("dropped", 35, tester.droppedPairs());

        tester = Answers.with(COUNTERS + ALWAYS_FAILS);
        due("steps", 140, tester.explore(200));
        due("pool", 40, tester.poolSize());
        due("failures", 20, tester.failureCount());
        due("dropped of both", 50, tester.droppedPairs());
        due("redundant", 31, tester.redundantPairs());

        tester = Answers.with(COUNTERS + ALWAYS_FAILS);
        tester.explore(80);
        due("20 failures", 20, tester.failureCount());
        due("none dropped", 0, tester.droppedPairs());
        tester.explore(4);
        due("the 21st failure", 20, tester.failureCount());
        due("is dropped", 1, tester.droppedPairs());
    }

    // 18
    private static void poolSize() {
        ContractTester tester = Answers.with(COUNTERS);
        tester.explore(3);
        due("pool of length 1", 4, tester.poolSize());
        tester.explore(9);
        due("pool of length 2", 10, tester.poolSize());
        tester.explore(200);
        due("full pool", 40, tester.poolSize());
    }

    // 19 and 20
    private static void sequenceLengthAndCall() {
        ContractTester tester = Answers.with("method do x=x+1;method do y=5;");
        tester.explore(5);
        // The pool: empty, 0, 1, 0 0, 0 1.
        due("pool", 5, tester.poolSize());
        int[][] calls = {{}, {0}, {1}, {0, 0}, {0, 1}};
        for (int sequence = 0; sequence < calls.length; sequence++) {
            String name = "sequence " + sequence;
            due("length of " + name, calls[sequence].length, tester.sequenceLength(sequence));
            for (int index = 0; index < calls[sequence].length; index++) {
                due("call " + index + " of " + name, calls[sequence][index], tester.sequenceCall(sequence, index));
            }
            due("a call past " + name, NONE, tester.sequenceCall(sequence, calls[sequence].length));
            due("call -1 of " + name, INVALID_ARGUMENT, tester.sequenceCall(sequence, -1));
        }
        due("the last call number", NONE, tester.sequenceCall(4, Integer.MAX_VALUE));
        due("the least call number", INVALID_ARGUMENT, tester.sequenceCall(4, Integer.MIN_VALUE));
        due("length of sequence 5", INVALID_ARGUMENT, tester.sequenceLength(5));
        due("call 0 of sequence 5", INVALID_ARGUMENT, tester.sequenceCall(5, 0));
        for (int wrong : WRONG_NUMBERS) {
            due("length of sequence " + wrong, INVALID_ARGUMENT, tester.sequenceLength(wrong));
            due("call of sequence " + wrong, INVALID_ARGUMENT, tester.sequenceCall(wrong, 99));
        }
        tester.reset();
        due("length of a removed sequence", INVALID_ARGUMENT, tester.sequenceLength(1));

        tester = Answers.with("method do x=x+1;");
        tester.setMaximumLength(8);
        tester.explore(200);
        due("greatest length", 8, tester.sequenceLength(8));
        due("its last call", 0, tester.sequenceCall(8, 7));
        due("past its last call", NONE, tester.sequenceCall(8, 8));

        tester = Answers.with(COUNTERS);
        tester.explore(200);
        due("length of sequence 39", 5, tester.sequenceLength(39));
        due("call 4 of sequence 39", 2, tester.sequenceCall(39, 4));
        due("length of sequence 40", INVALID_ARGUMENT, tester.sequenceLength(40));
    }

    // 21
    private static void finalValue() {
        ContractTester tester = Answers.with("init x 1;init y 2;init z 3;method do x=x+y do z=-9;");
        tester.explore(2);
        int[][] values = {{1, 2, 3}, {3, 2, -9}, {5, 2, -9}};
        for (int sequence = 0; sequence < values.length; sequence++) {
            for (int field = 0; field < 3; field++) {
                due("field " + field + " of sequence " + sequence, values[sequence][field],
                        tester.finalValue(sequence, field));
            }
        }
        due("field 3", NONE, tester.finalValue(0, 3));
        due("field -1", NONE, tester.finalValue(0, -1));
        due("sequence 3", NONE, tester.finalValue(3, 0));
        for (int wrong : WRONG_NUMBERS) {
            due("field " + wrong, NONE, tester.finalValue(0, wrong));
            due("sequence " + wrong, NONE, tester.finalValue(wrong, 0));
        }
    }

    // 22
    private static void enabledMethods() {
        ContractTester tester = Answers.with("method do x=1;method require x=1 do y=2;"
                + "method require x<2 require y=2 do x=3;method require z=0 do x=99+1;invariant y<2;");
        due("enabled at first", 0b1001, tester.enabledMethods(0));
        tester.explore(4);
        due("enabled after x=1", 0b1011, tester.enabledMethods(1));
        due("sequence 2", INVALID_ARGUMENT, tester.enabledMethods(2));
        for (int wrong : WRONG_NUMBERS) {
            due("enabled of " + wrong, INVALID_ARGUMENT, tester.enabledMethods(wrong));
        }
        Answers.load(tester, "method do x=1;".repeat(6));
        due("all six", 63, tester.enabledMethods(0));
        tester.setMaximumLength(1);
        tester.explore(6);
        due("enabled at the maximum length", 63, tester.enabledMethods(1));
        due("enabled without methods", 0, new ContractTester().enabledMethods(0));
    }

    // 23
    private static void findState() {
        ContractTester tester = Answers.with("init x 1;init y 2;init z 3;method do x=7 do y=8 do z=9;method do x=99+1;");
        due("the initial state", 0, tester.findState(1, 2, 3));
        due("a state before it is reached", NONE, tester.findState(7, 8, 9));
        tester.explore(200);
        due("a state that is reached", 1, tester.findState(7, 8, 9));
        due("another x", NONE, tester.findState(6, 8, 9));
        due("another y", NONE, tester.findState(7, 9, 9));
        due("another z", NONE, tester.findState(7, 8, 8));
        due("fields in another order", NONE, tester.findState(9, 8, 7));
        due("a state out of the range", NONE, tester.findState(100, 2, 3));
        due("the greatest numbers", NONE, tester.findState(Integer.MAX_VALUE, Integer.MAX_VALUE, Integer.MIN_VALUE));
        tester.reset();
        due("a state after reset", NONE, tester.findState(7, 8, 9));
    }

    // 24
    private static void failureCount() {
        ContractTester tester = Answers.with("method do x=x+1;method do x=99+1;method do x=0 ensure 1=0;method require 1=0 do x=1;");
        due("failures at first", 0, tester.failureCount());
        tester.explore(4);
        due("failures of the empty sequence", 2, tester.failureCount());
        due("explore the rest", 16, tester.explore(200));
        due("failures of 5 sequences", 10, tester.failureCount());
        due("failures aren't in the pool", 6, tester.poolSize());
        due("skipped pairs aren't failures", 5, tester.skippedPairs());
    }

    // 25 and 26
    private static void failureLengthAndCall() {
        ContractTester tester = Answers.with("method do x=x+1;method do x=99+1;");
        tester.setMaximumLength(8);
        tester.explore(200);
        due("failures", 8, tester.failureCount());
        for (int failure = 0; failure < 8; failure++) {
            String name = "failure " + failure;
            due("length of " + name, failure + 1, tester.failureLength(failure));
            for (int index = 0; index < failure; index++) {
                due("call " + index + " of " + name, 0, tester.failureCall(failure, index));
            }
            due("last call of " + name, 1, tester.failureCall(failure, failure));
            due("past " + name, NONE, tester.failureCall(failure, failure + 1));
            due("call -1 of " + name, INVALID_ARGUMENT, tester.failureCall(failure, -1));
        }
        due("a great call number", NONE, tester.failureCall(7, Integer.MAX_VALUE));
        due("length of failure 8", INVALID_ARGUMENT, tester.failureLength(8));
        due("call 0 of failure 8", INVALID_ARGUMENT, tester.failureCall(8, 0));
        for (int wrong : WRONG_NUMBERS) {
            due("length of failure " + wrong, INVALID_ARGUMENT, tester.failureLength(wrong));
            due("call of failure " + wrong, INVALID_ARGUMENT, tester.failureCall(wrong, 99));
        }

        tester = Answers.with(COUNTERS + ALWAYS_FAILS);
        tester.explore(200);
        due("length of failure 19", 4, tester.failureLength(19));
        due("length of failure 20", INVALID_ARGUMENT, tester.failureLength(20));
        due("call 3 of failure 19", 3, tester.failureCall(19, 3));
        due("call 2 of failure 19", 2, tester.failureCall(19, 2));
    }

    // 27
    private static void failureVerdict() {
        ContractTester tester = Answers.with("invariant x<5;method do x=99+1;method do x=1 ensure x=2;method do x=5;");
        tester.explore(3);
        due("range", 2, tester.failureVerdict(0));
        due("postcondition", 3, tester.failureVerdict(1));
        due("invariant", 4, tester.failureVerdict(2));
        due("failure 3", INVALID_ARGUMENT, tester.failureVerdict(3));
        for (int wrong : WRONG_NUMBERS) {
            due("verdict of failure " + wrong, INVALID_ARGUMENT, tester.failureVerdict(wrong));
        }
        tester.reset();
        due("verdict after reset", INVALID_ARGUMENT, tester.failureVerdict(0));
    }

    // 28 and 29
    private static void minimizedLengthAndCall() {
        ContractTester tester = Answers.with(LADDER);
        tester.explore(200);
        due("failures of the ladder", 3, tester.failureCount());
        due("failure 2", 3, tester.failureLength(2));
        // Without 1, 0 can go too: the search has to start again with it.
        due("minimized failure 2", 1, tester.minimizedLength(2));
        due("its call", 2, tester.minimizedCall(2, 0));
        due("past its call", NONE, tester.minimizedCall(2, 1));
        due("call -1", INVALID_ARGUMENT, tester.minimizedCall(2, -1));
        due("a great call number", NONE, tester.minimizedCall(2, Integer.MAX_VALUE));
        due("failure 2 stays", 3, tester.failureLength(2));
        due("its first call stays", 0, tester.failureCall(2, 0));
        due("minimized failure 0", 1, tester.minimizedLength(0));
        due("minimized failure 3", INVALID_ARGUMENT, tester.minimizedLength(3));
        due("call of failure 3", INVALID_ARGUMENT, tester.minimizedCall(3, 0));
        for (int wrong : WRONG_NUMBERS) {
            due("minimized failure " + wrong, INVALID_ARGUMENT, tester.minimizedLength(wrong));
            due("call of minimized failure " + wrong, INVALID_ARGUMENT, tester.minimizedCall(wrong, 99));
        }

        tester = Answers.with("method do x=x+1;method require x>6 do x=99+1;method do y=1;");
        tester.setMaximumLength(8);
        tester.explore(200);
        due("a failure that needs all its calls", 8, tester.failureLength(0));
        due("stays as long", 8, tester.minimizedLength(0));
        due("its first call", 0, tester.minimizedCall(0, 0));
        due("its last call", 1, tester.minimizedCall(0, 7));

        tester = Answers.with("method do x=x+1;method require x=2 do x=99+1;method do y=0 ensure y=1;");
        tester.explore(200);
        // The failures: 2, 0 2, 0 0 1, 0 0 2, and so on.
        due("minimized failure 2", 3, tester.minimizedLength(2));
        due("call 0 of minimized failure 1", 2, tester.minimizedCall(1, 0));
        due("call 2 of minimized failure 2", 1, tester.minimizedCall(2, 2));
        due("minimized failure 3", 1, tester.minimizedLength(3));
    }

    // 28 and 29
    private static void minimizedKeepsTheVerdict() {
        ContractTester tester = Answers.with("method do x=50;method do x=x+60 ensure x<0;");
        tester.explore(200);
        due("failures", 2, tester.failureCount());
        due("0 1 is out of the range", 2, tester.failureVerdict(1));
        due("1 alone is not", 3, tester.failureVerdict(0));
        due("so that 0 is needed", 2, tester.minimizedLength(1));
        due("first call", 0, tester.minimizedCall(1, 0));
        due("second call", 1, tester.minimizedCall(1, 1));

        // Without 0, call 1 fails with the verdict that 2 has at the end: it isn't the last call.
        tester = Answers.with("method do x=1;method do y=x ensure y=1;method require y=1 do z=0 ensure z=1;");
        tester.explore(200);
        due("failures", 2, tester.failureCount());
        due("length of failure 1", 3, tester.failureLength(1));
        due("an earlier call may not fail", 3, tester.minimizedLength(1));
    }

    // 28 and 29
    private static void minimizedFromTheFirstCallOn() {
        // Either 0 or 1 is needed before 2.
        ContractTester tester = Answers.with(
                "method do x=1 do y=1;method do x=1 do z=1;method require x=1 do x=2 ensure x=1;");
        tester.explore(200);
        int failure = failureWithCalls(tester, 0, 1, 2);
        due("there is a failure 0 1 2", 1, failure >= 0 ? 1 : 0);
        due("length", 2, tester.minimizedLength(failure));
        due("0 is taken away", 1, tester.minimizedCall(failure, 0));
        due("2 stays", 2, tester.minimizedCall(failure, 1));
        due("undo", 1, tester.undo());
        due("minimized after undo", INVALID_ARGUMENT, tester.minimizedLength(failure));
    }

    private static int failureWithCalls(ContractTester tester, int... calls) {
        for (int failure = 0; failure < tester.failureCount(); failure++) {
            boolean same = tester.failureLength(failure) == calls.length;
            for (int index = 0; same && index < calls.length; index++) {
                same = tester.failureCall(failure, index) == calls[index];
            }
            if (same) {
                return failure;
            }
        }
        return -1;
    }
}
