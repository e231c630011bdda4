import java.util.ArrayList;
import java.util.List;

/** Long runs of calls, always the same ones, on the class and on the model of the document. */
public final class ModelTests {
    private static final int RUNS = 1500;
    private static final int CALLS = 512;

    private static final Answers ANSWERS = new Answers();

    private final int run;
    private final ContractTester tester = new ContractTester();
    private final Model model = new Model();
    private final List<String> calls = new ArrayList<>();
    private long seed;
    private boolean isWrong;

    private ModelTests(int run) {
        this.run = run;
        seed = run * 7919L + 17;
    }

    public static void main(String[] arguments) {
        int wrongRuns = 0;
        for (int run = 0; run < RUNS && wrongRuns < 5; run++) {
            wrongRuns += new ModelTests(run).agrees() ? 0 : 1;
        }
        ANSWERS.finish("ModelTests");
    }

    private boolean agrees() {
        while (calls.size() < CALLS && !isWrong) {
            int kind = below(100);
            if (kind < 12) {
                load();
            } else if (kind < 16) {
                runSomeText();
            } else if (kind < 40) {
                edit();
            } else {
                look();
            }
        }
        return !isWrong;
    }

    private int below(int bound) {
        seed = seed * 6364136223846793005L + 1442695040888963407L;
        return (int) ((seed >>> 33) % bound);
    }

    /** Mostly a small number from 0 on, now and then one that is far out. */
    private int number(int usual) {
        switch (below(12)) {
            case 0:
                return -1 - below(3);
            case 1:
                return usual + below(3);
            case 2:
                return below(2) == 0 ? Integer.MIN_VALUE : Integer.MAX_VALUE;
            default:
                return below(Math.max(1, usual));
        }
    }

    private void same(String call, int want, int got) {
        if (calls.size() >= CALLS || isWrong) {
            return;
        }
        calls.add(call + " = " + got);
        if (want != got) {
            isWrong = true;
            ANSWERS.due("run " + run + " of the model: " + calls + ": the last call", want, got);
        }
    }

    // Calls

    private void append(String text) {
        for (int index = 0; index < text.length() && calls.size() < CALLS && !isWrong; index++) {
            int character = text.charAt(index);
            same("append '" + (char) character + "'", model.appendCharacter(character), tester.appendCharacter(character));
        }
    }

    private void load() {
        if (calls.size() > 400) {
            return;
        }
        String text = component();
        if (below(5) == 0) {
            text = spoiled(text);
        }
        append(text);
        if (calls.size() < CALLS && !isWrong) {
            int want = model.loadComponent();
            same("loadComponent()", want, tester.loadComponent());
            if (want < 0) {
                clear();
            }
        }
    }

    private void runSomeText() {
        StringBuilder text = new StringBuilder();
        int length = below(7);
        for (int index = 0; index < length; index++) {
            text.append((char) ('0' + below(Math.max(1, model.methodCount()))));
        }
        append(below(12) == 0 ? spoiled(text.toString()) : text.toString());
        if (calls.size() < CALLS && !isWrong) {
            int want = model.runText();
            same("runText()", want, tester.runText());
            if (want < 0) {
                clear();
            }
        }
    }

    private void clear() {
        if (calls.size() < CALLS && !isWrong) {
            same("clearText()", model.clearText(), tester.clearText());
        }
    }

    private void edit() {
        int first = number(200);
        switch (below(16)) {
            case 0:
                first = number(3);
                int value = below(4) == 0 ? below(250) - 125 : below(7) - 3;
                same("setInitialValue(" + first + ", " + value + ")",
                        model.setInitialValue(first, value), tester.setInitialValue(first, value));
                break;
            case 1:
                first = number(model.methodCount() + 8);
                same("removeMethod(" + first + ")", model.removeMethod(first), tester.removeMethod(first));
                break;
            case 2:
            case 3:
                first = number(10);
                same("setMaximumLength(" + first + ")", model.setMaximumLength(first), tester.setMaximumLength(first));
                break;
            case 4:
                same("reset()", model.reset(), tester.reset());
                break;
            case 5:
            case 6:
                same("undo()", model.undo(), tester.undo());
                break;
            case 7:
            case 8:
            case 9:
                first = 1 + below(9);
                same("explore(" + first + ")", model.explore(first), tester.explore(first));
                break;
            default:
                same("explore(" + first + ")", model.explore(first), tester.explore(first));
                break;
        }
    }

    private void look() {
        int sequence = number(model.poolSize());
        int failure = number(model.failureCount());
        int index = number(5);
        int field = number(3);
        switch (below(19)) {
            case 0:
                same("methodCount()", model.methodCount(), tester.methodCount());
                break;
            case 1:
                same("complexity(" + index + ")", model.complexity(index), tester.complexity(index));
                break;
            case 2:
                same("openPairs()", model.openPairs(), tester.openPairs());
                break;
            case 3:
                same("skippedPairs()", model.skippedPairs(), tester.skippedPairs());
                break;
            case 4:
                same("redundantPairs()", model.redundantPairs(), tester.redundantPairs());
                break;
            case 5:
                same("droppedPairs()", model.droppedPairs(), tester.droppedPairs());
                break;
            case 6:
                same("poolSize()", model.poolSize(), tester.poolSize());
                break;
            case 7:
                same("sequenceLength(" + sequence + ")", model.sequenceLength(sequence), tester.sequenceLength(sequence));
                break;
            case 8:
            case 9:
                same("sequenceCall(" + sequence + ", " + index + ")",
                        model.sequenceCall(sequence, index), tester.sequenceCall(sequence, index));
                break;
            case 10:
                same("finalValue(" + sequence + ", " + field + ")",
                        model.finalValue(sequence, field), tester.finalValue(sequence, field));
                break;
            case 11:
                same("enabledMethods(" + sequence + ")", model.enabledMethods(sequence), tester.enabledMethods(sequence));
                break;
            case 12:
                lookForState(sequence);
                break;
            case 13:
                same("failureCount()", model.failureCount(), tester.failureCount());
                break;
            case 14:
                same("failureLength(" + failure + ")", model.failureLength(failure), tester.failureLength(failure));
                break;
            case 15:
                same("failureCall(" + failure + ", " + index + ")",
                        model.failureCall(failure, index), tester.failureCall(failure, index));
                break;
            case 16:
                same("failureVerdict(" + failure + ")", model.failureVerdict(failure), tester.failureVerdict(failure));
                break;
            case 17:
                same("minimizedLength(" + failure + ")", model.minimizedLength(failure), tester.minimizedLength(failure));
                break;
            default:
                same("minimizedCall(" + failure + ", " + index + ")",
                        model.minimizedCall(failure, index), tester.minimizedCall(failure, index));
                break;
        }
    }

    private void lookForState(int sequence) {
        int x = model.finalValue(sequence, 0);
        int y = model.finalValue(sequence, 1);
        int z = model.finalValue(sequence, 2) + (below(3) == 0 ? 1 : 0);
        same("findState(" + x + ", " + y + ", " + z + ")", model.findState(x, y, z), tester.findState(x, y, z));
    }

    // Texts

    private String component() {
        StringBuilder text = new StringBuilder();
        int declarations = 1 + below(7);
        for (int declaration = 0; declaration < declarations; declaration++) {
            switch (below(9)) {
                case 0:
                    text.append("init ").append(field()).append(space()).append(number()).append(";");
                    break;
                case 1:
                    text.append("invariant ").append(condition(false)).append(";");
                    break;
                default:
                    text.append(method());
                    break;
            }
            text.append(space());
        }
        return text.length() > 200 && below(4) != 0 ? component() : text.toString();
    }

    private String method() {
        StringBuilder text = new StringBuilder("method");
        int requires = Math.max(0, below(5) - 2);
        for (int clause = 0; clause < requires; clause++) {
            text.append(" require ").append(condition(false));
        }
        int assignments = 1 + Math.max(0, below(6) - 3);
        for (int clause = 0; clause < assignments; clause++) {
            text.append(" do ").append(assignment());
        }
        int ensures = Math.max(0, below(5) - 2);
        for (int clause = 0; clause < ensures; clause++) {
            text.append(" ensure ").append(condition(true));
        }
        return text.append(space()).append(';').toString();
    }

    private String condition(boolean allowsOld) {
        return operand(allowsOld) + space() + "<=><>".charAt(below(5)) + space() + operand(allowsOld);
    }

    private String assignment() {
        String field = field();
        if (below(3) > 0) {
            return field + "=" + field + (below(3) == 0 ? "-" : "+") + (1 + below(3));
        }
        String second = below(2) == 0 ? "" : space() + (below(2) == 0 ? "-" : "+") + operand(false);
        return field + space() + "=" + operand(false) + second;
    }

    private String operand(boolean allowsOld) {
        if (allowsOld && below(3) == 0) {
            return "old " + field();
        }
        return below(2) == 0 ? field() : number();
    }

    private String field() {
        return "" + "xyz".charAt(below(3));
    }

    private String number() {
        String sign = below(4) == 0 ? "-" + space() : "";
        return sign + (below(4) == 0 ? below(100) : below(6));
    }

    private String space() {
        return below(8) == 0 ? " " : "";
    }

    private String spoiled(String text) {
        StringBuilder spoiled = new StringBuilder(text);
        int at = below(text.length() + 1);
        switch (below(4)) {
            case 0:
                spoiled.setLength(at);
                break;
            case 1:
                spoiled.insert(at, " ;x=<+-09old require do ensure invariant \u00e9\u0000A".charAt(below(42)));
                break;
            case 2:
                spoiled.insert(at, new String[] {" old ", " do ", " ensure ", " require ", ";", " 123 "}[below(6)]);
                break;
            default:
                spoiled.delete(at, Math.min(text.length(), at + 1 + below(3)));
                break;
        }
        return spoiled.toString();
    }
}
