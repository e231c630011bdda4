/**
 * For each sentence of the document's "What it is", "Components" and "Calls" that names a boundary case
 * a test of its own, in the document's order, with answers worked out by hand.
 */
public final class ComponentBoundaryTests {
    private static final Answers ANSWERS = new Answers();
    private static final String METHOD = "method do x=1;";

    public static void main(String[] arguments) {
        callsOfAnObject();

        valuesOfFields();
        numberOfInvariants();
        numberOfMethods();
        orderOfClauses();
        numberOfPreconditions();
        numberOfAssignments();
        numberOfPostconditions();
        greatestText();
        lexemesOfLetters();
        lexemesOfDigits();
        lexemesOfOneCharacter();
        spaces();
        declarationsAsOften();
        wordsOfTheGrammar();
        wordsByTheLetter();
        everyCharacterAsAField();
        everyCharacterAsARelation();
        everyCharacterAsAnOperand();
        everyCharacterAsASign();
        oldInPostconditionsAlone();
        signOfANumber();
        digits();
        whatIsTooOften();
        laterInit();
        noInit();
        emptyText();
        firstLexemeInError();
        endOfTheText();
        leastAndGreatestComplexity();

        preconditionVerdict();
        rangeVerdict();
        rangeOfEachAssignment();
        postconditionVerdict();
        oldValues();
        invariantVerdict();
        okVerdict();
        failingVerdicts();
        invariantsOfTheInitialState();
        ANSWERS.finish("ComponentBoundaryTests");
    }

    private static void about(String sentence) {
        ANSWERS.about(sentence);
    }

    private static void due(String what, long want, long got) {
        ANSWERS.due(what, want, got);
    }

    private static void callsOfAnObject() {
        about("An object is used for at most 512 calls after it has been made");
        ContractTester tester = Answers.with("method do x=x+1;");
        due("call 18", 5, tester.explore(200));
        for (int call = 19; call <= 506; call++) {
            due("call " + call, 5, tester.setMaximumLength(5));
        }
        due("call 507", 6, tester.poolSize());
        due("call 508", 5, tester.undo());
        due("call 509", 4, tester.undo());
        due("call 510", 5, tester.sequenceLength(5));
        due("call 511", 6, tester.reset());
        due("call 512", 4, tester.undo());
    }

    // Components

    private static void valuesOfFields() {
        about("three fields x, y and z (numbered 0, 1, 2), which hold numbers from -99 to 99");
        for (int field = 0; field < 3; field++) {
            String name = "xyz".substring(field, field + 1);
            due("the greatest " + name, 99, Answers.with("init " + name + " 99;").finalValue(0, field));
            due("the least " + name, -99, Answers.with("init " + name + " -99;").finalValue(0, field));
            ANSWERS.verdict(0, "method do " + name + "=98+1;");
            ANSWERS.verdict(0, "method do " + name + "=-98-1;");
            ANSWERS.verdict(2, "method do " + name + "=99+1;");
            ANSWERS.verdict(2, "method do " + name + "=-99-1;");
        }
    }

    private static void numberOfInvariants() {
        about("at most 3 invariants");
        ANSWERS.loads(1, METHOD);
        ANSWERS.loads(1, "invariant x=1;".repeat(3) + METHOD);
        ANSWERS.inError("invariant x=1;".repeat(3) + "^invariant x=1;" + METHOD);
        ANSWERS.verdict(4, "invariant 1=1;invariant 1=1;invariant x<1;" + METHOD);
    }

    private static void numberOfMethods() {
        about("at most 6 methods, numbered from 0 in the order in which they are declared");
        ANSWERS.loads(0, "init x 1;");
        ANSWERS.inError(METHOD.repeat(6) + "^" + METHOD);
        ContractTester tester = Answers.with("method do x=1 ensure x=2;" + METHOD.repeat(4) + "method do x=99+1;");
        due("method 0", 3, Answers.run(tester, "0"));
        due("method 5", 12, Answers.run(tester, "15"));
        due("no method 6", -11, Answers.run(tester, "56"));
    }

    private static void orderOfClauses() {
        about("A method has clauses, in a fixed order");
        ANSWERS.loads(1, "method require x=1 do x=1 ensure x=1;");
        ANSWERS.inError("method do x=1 ^require x=1;");
        ANSWERS.inError("method ^ensure x=1 do x=1;");
        ANSWERS.inError("method require x=1 ^ensure x=1 do x=1;");
        ANSWERS.inError("method do x=1 ensure x=1 ^do x=1;");
        ANSWERS.inError("method do x=1 ensure x=1 ^require x=1;");
    }

    private static void numberOfPreconditions() {
        about("first 0 to 2 preconditions");
        ANSWERS.loads(1, METHOD);
        ANSWERS.loads(1, "method require x=0 do x=1;");
        ANSWERS.loads(1, "method require x=0 require y=0 do x=1;");
        ANSWERS.inError("method require x=0 require y=0 ^require z=0 do x=1;");
        ANSWERS.verdict(1, "method require x=0 require y=1 do x=1;");
        ANSWERS.verdict(1, "method require x=1 require y=0 do x=1;");
    }

    private static void numberOfAssignments() {
        about("then 1 to 3 assignments");
        ANSWERS.inError("method^;");
        ANSWERS.inError("method require x=0^;");
        ANSWERS.loads(1, METHOD);
        ANSWERS.loads(1, "method do x=1 do y=2;");
        ANSWERS.verdict(0, "method do x=1 do y=2 do z=3 ensure z=3;");
        ANSWERS.inError("method do x=1 do y=2 do z=3 ^do x=1;");
    }

    private static void numberOfPostconditions() {
        about("then 0 to 2 postconditions");
        ANSWERS.loads(1, METHOD);
        ANSWERS.loads(1, "method do x=1 ensure x=1;");
        ANSWERS.verdict(0, "method do x=1 ensure x=1 ensure y=0;");
        ANSWERS.verdict(3, "method do x=1 ensure x=1 ensure y=1;");
        ANSWERS.verdict(3, "method do x=1 ensure x=2 ensure y=0;");
        ANSWERS.inError("method do x=1 ensure x=1 ensure y=0 ^ensure z=0;");
    }

    private static void greatestText() {
        about("A component is read from a text buffer of at most 200 characters");
        ContractTester tester = new ContractTester();
        due("load of 200 characters", 1, Answers.load(tester, " ".repeat(186) + METHOD));
        due("load of 200 signs that are lexemes", 0, Answers.load(tester, "init x5;".repeat(25)));
        due("the last of 25 declarations", 5, tester.finalValue(0, 0));
        // The 201st character doesn't come into the buffer.
        ANSWERS.inError(" ".repeat(187) + "method do x=1^;");
    }

    private static void lexemesOfLetters() {
        about("a maximal run of the letters a to z");
        ANSWERS.loads(0, "init x1;init z1;");
        ANSWERS.inError("^initx 1;");
        ANSWERS.inError("init ^xx 1;");
        ANSWERS.inError("^a");
        ANSWERS.inError("^z");
        // A letter beside a field belongs to the same lexeme, from a to z.
        for (char letter = 'a'; letter <= 'z'; letter++) {
            ANSWERS.inError("method do x=^x" + letter + ";");
            ANSWERS.inError("method do x=^" + letter + "x;");
            ANSWERS.inError("method do x=^" + letter + letter + ";");
        }
        // The characters beside a and z, and the capitals, end a run and are lexemes themselves.
        ANSWERS.inError("init^`x 1;");
        ANSWERS.inError("init^{x 1;");
        ANSWERS.inError("init x1;^Init x1;");
        ANSWERS.inError("init ^X 1;");
        ANSWERS.inError("init^\u00e9 x 1;");
    }

    private static void lexemesOfDigits() {
        about("a maximal run of digits");
        ANSWERS.loads(0, "init x0;init x9;init x09;init x90;");
        ANSWERS.inError("init x ^090;");
        ANSWERS.inError("init x 9 ^0;");
        // The characters beside 0 and 9 end a run and are lexemes themselves.
        ANSWERS.inError("init x 9^/9;");
        ANSWERS.inError("init x 9^:9;");
        ANSWERS.inError("init x 9^\u00b2;");
        ANSWERS.loads(1, "method require 1<2do x=1ensure 1=1;");
    }

    private static void lexemesOfOneCharacter() {
        about("or any other single character except the space");
        ANSWERS.inError("init x 1;^;");
        ANSWERS.inError("method require x<^= do x=1;");
        ANSWERS.inError("method do x=^=1;");
        ANSWERS.loads(1, "method do x=1--1;");
        ANSWERS.inError("method do x=1--^-1;");
        for (int character = 0; character < 256; character++) {
            ContractTester tester = new ContractTester();
            tester.appendCharacter(character);
            due("a text of character " + character, character == 32 ? 0 : -10, tester.loadComponent());
        }
    }

    private static void spaces() {
        about("Spaces (code 32) separate lexemes and have no other effect");
        ANSWERS.loads(0, " ");
        ANSWERS.loads(0, " ".repeat(200));
        ANSWERS.loads(0, "init x- 5 ;");
        ANSWERS.loads(1, "  method   do x  =  1  -  - 5  ensure  old   x < 1  ;  ");
        ANSWERS.inError("init x 1 ^2;");
        ANSWERS.inError("^in it x 1;");
        for (int character : new int[] {0, 9, 10, 11, 12, 13, 31, 33, 127, 133, 160, 255}) {
            ANSWERS.inError("init^" + (char) character + "x 1;");
        }
    }

    private static void declarationsAsOften() {
        about("component = { \"init\" field number \";\" | \"invariant\" condition \";\" | method }");
        ANSWERS.loads(0, "");
        ANSWERS.loads(0, "init x1;".repeat(25));
        ANSWERS.loads(1, METHOD + "invariant x<9;init x 1;");
        ANSWERS.inError("init x 1^");
        ANSWERS.inError("init x 1 ^init y 1;");
        ANSWERS.inError("invariant x<1 ^invariant x<2;");
        ANSWERS.inError("method do x=1 ^method do x=1;");
    }

    private static void wordsOfTheGrammar() {
        about("not allowed where it stands");
        String[] words = {"init", "invariant", "method", "require", "do", "ensure", "old", "x", "12", "<", "=", "+", "-", ";"};
        for (String word : words) {
            boolean declares = word.equals("init") || word.equals("invariant") || word.equals("method");
            boolean isOperand = word.equals("x") || word.equals("12") || word.equals("-");
            ANSWERS.inError(declares ? word + "^" : "^" + word);
            ANSWERS.inError(word.equals("x") ? "init x^" : "init ^" + word);
            ANSWERS.inError(word.equals("12") || word.equals("-") ? "init x " + word + "^" : "init x ^" + word);
            ANSWERS.inError(isOperand ? "invariant " + word + "^" : "invariant ^" + word);
            ANSWERS.inError(word.equals("<") || word.equals("=") ? "invariant x" + word + "^" : "invariant x ^" + word);
            ANSWERS.inError(isOperand ? "invariant x<" + word + "^" : "invariant x<^" + word);
            ANSWERS.inError(word.equals("require") || word.equals("do") ? "method " + word + "^" : "method ^" + word);
            ANSWERS.inError(word.equals("x") ? "method do x^" : "method do ^" + word);
            ANSWERS.inError(word.equals("=") ? "method do x=^" : "method do x ^" + word);
            ANSWERS.inError(isOperand ? "method do x=" + word + "^" : "method do x=^" + word);
            ANSWERS.inError(isOperand ? "method do x=1+" + word + "^" : "method do x=1+^" + word);
            ANSWERS.inError(isOperand || word.equals("old") ? "method do x=1 ensure " + word + "^" : "method do x=1 ensure ^" + word);
            ANSWERS.inError(word.equals("x") ? "method do x=1 ensure old x^" : "method do x=1 ensure old ^" + word);
        }
    }

    private static void wordsByTheLetter() {
        about("\"init\" field number \";\" and the other words of the grammar");
        byTheLetter("", "init", " x 1;");
        byTheLetter("", "invariant", " x<1;");
        byTheLetter("", "method", " do x=1;");
        byTheLetter("method ", "require", " x<1 do x=1;");
        byTheLetter("method ", "do", " x=1;");
        byTheLetter("method do x=1 ", "ensure", " x=1;");
        byTheLetter("method do x=1 ensure ", "old", " x=0;");
    }

    /** The word alone is allowed between the two texts: none with a letter more, less or other. */
    private static void byTheLetter(String before, String word, String behind) {
        ANSWERS.loads(before.isEmpty() && !word.equals("method") ? 0 : 1, before + word + behind);
        for (int index = 0; index < word.length(); index++) {
            String start = word.substring(0, index);
            String end = word.substring(index + 1);
            ANSWERS.inError(before + "^" + start + "j" + end + behind);
            ANSWERS.inError(before + "^" + start + Character.toUpperCase(word.charAt(index)) + end + behind);
            ANSWERS.inError(before + "^" + start + end + behind);
        }
        ANSWERS.inError(before + "^" + word + "j" + behind);
        ANSWERS.inError(before + "^j" + word + behind);
        ANSWERS.inError(before + "^" + word + word + behind);
    }

    private static void everyCharacterAsAField() {
        about("field = \"x\" | \"y\" | \"z\"");
        inEachPlace("init ", "1;", "xyz", "");
        inEachPlace("method do ", "=1;", "xyz", "");
        inEachPlace("method do x=1 ensure old ", "=1;", "xyz", "");
    }

    private static void everyCharacterAsARelation() {
        about("relation = \"<\" | \"=\" | \">\"");
        inEachPlace("invariant x ", "1;", "<=>", "");
        inEachPlace("method require x ", "1 do x=1;", "<=>", "");
        inEachPlace("method do x=1 ensure x ", "1;", "<=>", "");
    }

    private static void everyCharacterAsAnOperand() {
        about("operand = field | number");
        inEachPlace("invariant ", "=1;", "xyz0123456789", "-");
        inEachPlace("invariant 1= ", ";", "xyz0123456789", "-");
        inEachPlace("method require ", "<1 do x=1;", "xyz0123456789", "-");
        inEachPlace("method do x= ", ";", "xyz0123456789", "-");
        inEachPlace("method do x=1+ ", ";", "xyz0123456789", "-");
        inEachPlace("method do x=1 ensure ", "=1;", "xyz0123456789", "-");
        inEachPlace("init x ", ";", "0123456789", "-");
    }

    private static void everyCharacterAsASign() {
        about("assignment = field \"=\" operand [ ( \"+\" | \"-\" ) operand ]");
        inEachPlace("method do x=1 ", "1;", "+-", ";");
        inEachPlace("method do x ", "1;", "=", "");
        inEachPlace("init x 1 ", "", ";", "");
    }

    /**
     * Puts each character between the two texts. The allowed ones make a component; with a space, and with
     * those that are allowed but for what stands behind them, the error is there; else it is the character.
     */
    private static void inEachPlace(String before, String behind, String allowed, String butForTheNext) {
        for (int character = 0; character < 256; character++) {
            String text = before + (char) character;
            if (allowed.indexOf(character) >= 0) {
                ANSWERS.loads(before.startsWith("method") ? 1 : 0, text + " " + behind);
            } else if (character == ' ' || butForTheNext.indexOf(character) >= 0) {
                ANSWERS.inError(text + " ^" + behind);
            } else {
                ANSWERS.inError(before + "^" + (char) character + " " + behind);
            }
        }
    }

    private static void oldInPostconditionsAlone() {
        about("postcondition = ( operand | \"old\" field ) relation ( operand | \"old\" field )");
        ANSWERS.loads(1, "method do x=1 ensure old x<old y;");
        ANSWERS.inError("method do x=1 ensure old ^1<x;");
        ANSWERS.inError("method do x=1 ensure x<old ^-1;");
        ANSWERS.inError("method do x=1 ensure old ^old x<1;");
        ANSWERS.inError("method require ^old x<1 do x=1;");
        ANSWERS.inError("method require 1<^old x do x=1;");
        ANSWERS.inError("invariant ^old x<1;");
        ANSWERS.inError("invariant 1<^old x;");
        ANSWERS.inError("method do x=^old x;");
        ANSWERS.inError("method do x=1+^old x;");
        ANSWERS.inError("method do ^old x=1;");
    }

    private static void signOfANumber() {
        about("number = [ \"-\" ] digits");
        due("-0", 0, Answers.with("init x -0;").finalValue(0, 0));
        due("-1", -1, Answers.with("init x -1;").finalValue(0, 0));
        ANSWERS.inError("init x -^-1;");
        ANSWERS.inError("init x ^+1;");
        ANSWERS.inError("init x -^y;");
        ANSWERS.inError("method do x=-^x;");
        ANSWERS.verdict(0, "method do x=5-3 ensure x=2;");
        ANSWERS.verdict(0, "method do x=5--3 ensure x=8;");
        ANSWERS.verdict(0, "method do x=-5+-3 ensure -8=x;");
        ANSWERS.inError("method do x=5-3^-1;");
        ANSWERS.inError("method require x^-1<2 do x=1;");
        ANSWERS.loads(1, "method require -1<-2 do x=1;");
    }

    private static void digits() {
        about("Digits are a run of one or two digits; leading zeros are allowed");
        String[] numbers = {"0", "00", "7", "07", "10", "99", "-07", "-99"};
        int[] values = {0, 0, 7, 7, 10, 99, -7, -99};
        for (int index = 0; index < numbers.length; index++) {
            due("init x " + numbers[index], values[index], Answers.with("init x " + numbers[index] + ";").finalValue(0, 0));
        }
        ANSWERS.inError("init x ^000;");
        ANSWERS.inError("init x ^100;");
        ANSWERS.inError("init x -^007;");
        ANSWERS.inError("init x ^" + "9".repeat(190) + ";");
        ANSWERS.inError("invariant ^123<x;");
        ANSWERS.inError("invariant x<^123;");
        ANSWERS.inError("method do x=^100;");
        ANSWERS.inError("method do x=x+^100;");
        ANSWERS.inError("method do x=1 ensure x<^4294967297;");
    }

    private static void whatIsTooOften() {
        about("A fourth \"invariant\", a seventh \"method\", a third \"require\" or \"ensure\" of a method, and a fourth \"do\"");
        ANSWERS.inError("invariant 1=1;" + METHOD + "invariant 1=1;invariant 1=1;^invariant");
        ANSWERS.inError(METHOD.repeat(3) + "invariant 1=1;" + METHOD.repeat(3) + "^method");
        ANSWERS.inError("method require 1=1 require 1=1 ^require");
        ANSWERS.inError("method do x=1 ensure 1=1 ensure 1=1 ^ensure");
        ANSWERS.inError("method do x=1 do x=1 do x=1 ^do");
        // Each method has a number of its own.
        ANSWERS.loads(2, "method require 1=1 require 1=1 do x=1 do x=1 do x=1 ensure 1=1 ensure 1=1;".repeat(2));
        // What is loaded counts anew.
        ContractTester tester = Answers.with("invariant 1=1;".repeat(3) + METHOD.repeat(6));
        due("the next component", 6, Answers.load(tester, "invariant 1=1;".repeat(3) + METHOD.repeat(6)));
    }

    private static void laterInit() {
        about("A later \"init\" for the same field replaces the earlier one");
        ContractTester tester = Answers.with("init x 1;init y 2;init x 3;init z 4;" + METHOD + "init x -5;init z 0;");
        due("x", -5, tester.finalValue(0, 0));
        due("y", 2, tester.finalValue(0, 1));
        due("z", 0, tester.finalValue(0, 2));
    }

    private static void noInit() {
        about("the initial value is 0 where there is none");
        ContractTester tester = Answers.with("init x 1;init y 2;init z 3;");
        due("load of an init of y", 0, Answers.load(tester, "init y 5;"));
        due("x", 0, tester.finalValue(0, 0));
        due("y", 5, tester.finalValue(0, 1));
        due("z", 0, tester.finalValue(0, 2));
    }

    private static void emptyText() {
        about("An empty text is a component without invariants and methods");
        ContractTester tester = Answers.with("init x 5;invariant x<0;" + METHOD);
        due("load of nothing", 0, tester.loadComponent());
        due("methods", 0, tester.methodCount());
        due("x", 0, tester.finalValue(0, 0));
        due("open pairs", 0, tester.openPairs());
        due("it is an edit", 1, tester.undo());
        due("the methods of before", 1, tester.methodCount());
    }

    private static void firstLexemeInError() {
        about("the 0-based offset of the first character of the first lexeme that is not allowed where it stands");
        ANSWERS.inError("^?");
        ANSWERS.inError("^error init x 1;");
        ANSWERS.inError("init x ^error;error");
        ANSWERS.inError("  init x ^123;");
        ANSWERS.inError(" ".repeat(199) + "^?");
        ANSWERS.inError(" ".repeat(196) + "^oops");
        ANSWERS.inError("init x1;".repeat(24) + "init x ^y");
    }

    private static void endOfTheText() {
        about("If all lexemes are allowed but the text ends where more is needed, the error offset is the length of the text");
        ANSWERS.inError("init^");
        ANSWERS.inError("init ^");
        ANSWERS.inError("init x 1   ^");
        ANSWERS.inError("init" + " ".repeat(196) + "^");
        ANSWERS.inError("init x1;".repeat(24) + "init x 1^");
        ANSWERS.inError("method do x=1 do^");
        ANSWERS.inError("method do x=1 ensure x=1 ensure^");
    }

    private static void leastAndGreatestComplexity() {
        about("The complexity of a method is the number of its conditions and assignments, plus 1 for each assignment with + or -");
        ContractTester tester = Answers.with("method do x=1;"
                + "method require 1=1 require 1=1 do x=x+1 do y=y-1 do z=z--1 ensure 1=1 ensure old x=x;"
                + "method do x=-1 do y=1-1 do z=z+-1;method require -1<1 do x=x ensure -1<1;");
        due("the least", 1, tester.complexity(0));
        due("the greatest", 10, tester.complexity(1));
        due("the sign of a number isn't counted", 5, tester.complexity(2));
        due("nor in a condition", 3, tester.complexity(3));
    }

    // Calls

    private static void preconditionVerdict() {
        about("PRECONDITION (1): a precondition does not hold in the state. The state does not change");
        ANSWERS.verdict(1, "method require 1=0 do x=1;");
        ANSWERS.verdict(1, "method require x<0 do x=-1;");
        ANSWERS.verdict(1, "method require x>0 do x=1;");
        ANSWERS.verdict(0, "method require x=0 do x=1;");
        ANSWERS.verdict(0, "method require x>-1 require x<1 do x=1;");
        ANSWERS.verdict(1, "invariant 1=0;method require 1=0 do x=99+1 ensure 1=0;");
        ContractTester tester = Answers.with("method require y=0 require x=1 do x=1;");
        tester.explore(1);
        due("no other state is reached", 1, tester.poolSize());
        due("nor does it fail", 0, tester.failureCount());
    }

    private static void rangeVerdict() {
        about("if an assignment yields a number below -99 or above 99, the verdict is RANGE");
        ANSWERS.verdict(0, "method do x=99;");
        ANSWERS.verdict(0, "method do x=-99;");
        ANSWERS.verdict(0, "method do x=99+0;");
        ANSWERS.verdict(0, "method do x=-99-0;");
        ANSWERS.verdict(2, "method do x=99+1;");
        ANSWERS.verdict(2, "method do x=-99-1;");
        ANSWERS.verdict(2, "method do x=99+99;");
        ANSWERS.verdict(2, "method do x=-99-99;");
        ANSWERS.verdict(2, "method do x=99--99;");
        ANSWERS.verdict(0, "method do x=99-99 ensure x=0;");
        ANSWERS.verdict(0, "init x 99;init y -99;method do z=x+y ensure z=0;");
        ANSWERS.verdict(2, "init x 99;init y -99;method do z=x-y;");
        ANSWERS.verdict(2, "invariant 1=0;method do x=99+1 ensure 1=0;");
    }

    private static void rangeOfEachAssignment() {
        about("the assignments are executed one after the other, each one with the values that the earlier ones have assigned");
        ANSWERS.verdict(2, "method do x=99+1 do x=1;");
        ANSWERS.verdict(2, "method do x=1 do y=99+1 do y=1;");
        ANSWERS.verdict(2, "method do x=1 do y=1 do z=-99-1;");
        ANSWERS.verdict(0, "init x 99;method do x=x-1 do x=x+1 ensure x=99;");
        ANSWERS.verdict(2, "init x 99;method do x=x+1 do x=x-1;");
        ANSWERS.verdict(0, "init x 1;method do y=x+1 do z=y+1 do x=z+1 ensure x=4;");
        ANSWERS.verdict(2, "init x 33;method do x=x+x do x=x+x;");
    }

    private static void postconditionVerdict() {
        about("POSTCONDITION (3): otherwise, if a postcondition does not hold after the assignments");
        ANSWERS.verdict(3, "method do x=5 ensure x<5;");
        ANSWERS.verdict(0, "method do x=5 ensure x<6;");
        ANSWERS.verdict(3, "method do x=5 ensure x>5;");
        ANSWERS.verdict(0, "method do x=5 ensure x>4;");
        ANSWERS.verdict(3, "method do x=5 ensure x=4;");
        ANSWERS.verdict(0, "method do x=5 ensure x=5;");
        ANSWERS.verdict(3, "invariant 1=0;method do x=1 ensure 1=0;");
    }

    private static void oldValues() {
        about("\"old\" followed by a field means the value that the field had before the call");
        for (String name : new String[] {"x", "y", "z"}) {
            String start = "init " + name + " 5;method do " + name + "=6 ";
            ANSWERS.verdict(0, start + "do " + name + "=7 ensure old " + name + "=5 ensure " + name + "=7;");
            ANSWERS.verdict(3, start + "ensure old " + name + "=6;");
            ANSWERS.verdict(3, start + "ensure " + name + "=old " + name + ";");
            ANSWERS.verdict(0, start + "ensure 4<old " + name + " ensure 6>old " + name + ";");
        }
        // Before the call, not at the start.
        due("the second call", 0, Answers.run(Answers.with("method do x=x+1 ensure x>old x ensure 3>x;"), "00"));
        due("the third call", 23, Answers.run(Answers.with("method do x=x+1 ensure x>old x ensure 3>x;"), "000"));
    }

    private static void invariantVerdict() {
        about("INVARIANT (4): otherwise, if an invariant does not hold after the assignments");
        ANSWERS.verdict(4, "invariant x<5;method do x=5;");
        ANSWERS.verdict(0, "invariant x<5;method do x=4;");
        ANSWERS.verdict(4, "invariant x<9;invariant x<5;method do x=5 ensure x=5;");
        ANSWERS.verdict(4, "invariant x<5;invariant x<9;method do x=5;");
        ANSWERS.verdict(4, "invariant 1=1;invariant 1=1;invariant x>0;method do x=0;");
    }

    private static void okVerdict() {
        about("If none of these applies, the verdict is OK, and the state after the call consists of the values after the assignments");
        ContractTester tester = Answers.with("init x -99;init y 99;method do x=99 do y=-99 do z=x+y;");
        due("run", 0, Answers.run(tester, "0"));
        tester.explore(1);
        due("the state after the call", 1, tester.findState(99, -99, 0));
    }

    private static void failingVerdicts() {
        about("Calls with the verdicts 2, 3 and 4 fail");
        ContractTester tester = Answers.with("invariant x<5;method require x=1 do x=9;method do x=99+1;"
                + "method do x=1 ensure x=2;method do x=5;method do x=0;");
        due("steps", 5, tester.explore(5));
        due("failures", 3, tester.failureCount());
        due("verdict 1 doesn't fail", 1, tester.skippedPairs());
        due("verdict 0 doesn't fail", 1, tester.redundantPairs());
        due("failure 0", 2, tester.failureVerdict(0));
        due("failure 1", 3, tester.failureVerdict(1));
        due("failure 2", 4, tester.failureVerdict(2));
    }

    private static void invariantsOfTheInitialState() {
        about("The invariants are not checked in the initial state");
        ContractTester tester = Answers.with("init x 9;invariant x<5;method do x=4;method do y=1;");
        due("a run without calls", 0, Answers.run(tester, ""));
        due("the empty sequence stands in the pool", 0, tester.findState(9, 0, 0));
        due("a call that leaves the state", 0, Answers.run(tester, "0"));
        due("a call that stays in it", 4, Answers.run(tester, "1"));
        due("steps", 6, tester.explore(200));
        due("pool", 3, tester.poolSize());
        due("failures", 1, tester.failureCount());
    }
}
