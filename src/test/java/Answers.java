/** Compares answers with those that are due, and puts texts into a tester's buffer. */
final class Answers {
    private int wrong;
    private String sentence = "";

    /** Names the sentence of the document that the next answers belong to. */
    void about(String next) {
        sentence = "'" + next + "': ";
    }

    void due(String what, long want, long got) {
        if (got != want) {
            wrong++;
            System.out.println(sentence + what + " answered " + got + ", due is " + want);
        }
    }

    /** To be called last: ends the program with exit code 1 if an answer was wrong. */
    void finish(String tests) {
        System.out.println(tests + ": " + (wrong == 0 ? "all answers are as due" : wrong + " wrong answers"));
        if (wrong != 0) {
            System.exit(1);
        }
    }

    /** The verdict of the one method of a component, called once: 0 to 4. */
    void verdict(int want, String component) {
        due("the verdict of '" + component + "'", want, run(with(component), "0"));
    }

    /** Expects a text without error. */
    void loads(int methods, String text) {
        due("load of '" + text + "'", methods, load(new ContractTester(), text));
    }

    /** Expects an error where the sign ^ stands in the text. */
    void inError(String marked) {
        int offset = marked.indexOf('^');
        String text = marked.substring(0, offset) + marked.substring(offset + 1);
        due("load of '" + marked + "'", -10 - offset, load(new ContractTester(), text));
    }

    static void append(ContractTester tester, String text) {
        for (int index = 0; index < text.length(); index++) {
            tester.appendCharacter(text.charAt(index));
        }
    }

    static int load(ContractTester tester, String text) {
        append(tester, text);
        return tester.loadComponent();
    }

    static ContractTester with(String text) {
        ContractTester tester = new ContractTester();
        int answer = load(tester, text);
        if (answer < 0) {
            throw new IllegalStateException("the test's own component is in error: " + text);
        }
        return tester;
    }

    /** After 200 steps, or as many as there are. */
    static ContractTester explored(String text) {
        ContractTester tester = with(text);
        tester.explore(200);
        return tester;
    }

    static int run(ContractTester tester, String text) {
        append(tester, text);
        return tester.runText();
    }
}
