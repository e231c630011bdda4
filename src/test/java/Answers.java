/** Compares answers with those that are due, and puts texts into a tester's buffer. */
final class Answers {
    private int wrong;

    void due(String what, long want, long got) {
        if (got != want) {
            wrong++;
            System.out.println(what + " answered " + got + ", due is " + want);
        }
    }

    /** To be called last: ends the program with exit code 1 if an answer was wrong. */
    void finish(String tests) {
        System.out.println(tests + ": " + (wrong == 0 ? "all answers are as due" : wrong + " wrong answers"));
        if (wrong != 0) {
            System.exit(1);
        }
    }

    static void append(ContractTester tester, String text) {
        for (int index = 0; index < text.length(); index++) {
            tester.appendCharacter(text.charAt(index));
        }
    }

    static int load(ContractTester tester, String text) {
        append(tester, text);
        return tester.loadComponent();
    }

    static ContractTester with(String text) {
        ContractTester tester = new ContractTester();
        int answer = load(tester, text);
        if (answer < 0) {
            throw new IllegalStateException("the test's own component is in error: " + text);
        }
        return tester;
    }

    static int run(ContractTester tester, String text) {
        append(tester, text);
        return tester.runText();
    }
}
