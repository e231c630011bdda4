import java.util.ArrayDeque;
import java.util.ArrayList;
import java.util.Arrays;
import java.util.Deque;
import java.util.HashSet;
import java.util.List;
import java.util.Set;
import java.util.regex.Matcher;
import java.util.regex.Pattern;

/**
 * The document once more, written in another way than the class: clauses stay lists of lexemes, every
 * state is worked out anew from the calls, and the history holds whole copies. ModelTests compares both.
 */
final class Model {
    static final int INVALID_ARGUMENT = -1;
    static final int INVALID_STATE = -2;
    static final int LIMIT_REACHED = -3;
    static final int NONE = -1000;

    /** All that an undo restores. */
    private static final class Results {
        int[] initial = new int[3];
        List<List<String>> invariants = new ArrayList<>();
        List<List<List<String>>> methods = new ArrayList<>();
        int maximumLength = 5;
        List<List<Integer>> pool = new ArrayList<>(List.of(List.of()));
        Set<List<Integer>> processed = new HashSet<>();
        List<List<Integer>> failures = new ArrayList<>();
        int skipped;
        int redundant;
        int dropped;

        Results copy() {
            Results copy = new Results();
            copy.initial = initial.clone();
            copy.invariants = new ArrayList<>(invariants);
            copy.methods = new ArrayList<>(methods);
            copy.maximumLength = maximumLength;
            copy.pool = new ArrayList<>(pool);
            copy.processed = new HashSet<>(processed);
            copy.failures = new ArrayList<>(failures);
            copy.skipped = skipped;
            copy.redundant = redundant;
            copy.dropped = dropped;
            return copy;
        }

        void reset() {
            pool = new ArrayList<>(List.of(List.of()));
            processed = new HashSet<>();
            failures = new ArrayList<>();
            skipped = 0;
            redundant = 0;
            dropped = 0;
        }
    }

    private String text = "";
    private Results now = new Results();
    private final Deque<Results> past = new ArrayDeque<>();

    private void remember() {
        past.addLast(now.copy());
        if (past.size() > 6) {
            past.removeFirst();
        }
    }

    // The component

    int appendCharacter(int character) {
        if (character < 0 || character > 255) {
            return INVALID_ARGUMENT;
        }
        if (text.length() == 200) {
            return LIMIT_REACHED;
        }
        text += (char) character;
        return text.length();
    }

    int clearText() {
        int length = text.length();
        text = "";
        return length;
    }

    int loadComponent() {
        Results loaded = new Results();
        int error = read(loaded);
        if (error >= 0) {
            return -10 - error;
        }
        remember();
        loaded.maximumLength = now.maximumLength;
        now = loaded;
        text = "";
        return now.methods.size();
    }

    /**
     * A stack of what is still due, the next on top. Answers the error offset, or -1 if there is no error.
     */
    private int read(Results into) {
        Matcher lexemes = Pattern.compile("[a-z]+|[0-9]+|[^ ]", Pattern.DOTALL).matcher(text);
        Deque<String> due = new ArrayDeque<>(List.of("component"));
        List<String> clause = new ArrayList<>();
        int requires = 0;
        int dos = 0;
        int ensures = 0;
        while (true) {
            boolean atEnd = !lexemes.find();
            String lexeme = atEnd ? "" : lexemes.group();
            int offset = atEnd ? text.length() : lexemes.start();
            boolean taken = false;
            while (!taken) {
                String wanted = due.pop();
                List<String> instead = null;
                switch (wanted) {
                    case "component":
                        if (atEnd) {
                            return -1;
                        }
                        if (lexeme.equals("init")) {
                            instead = List.of("init", "field", "number", ";", "component");
                        } else if (lexeme.equals("invariant") && into.invariants.size() < 3) {
                            instead = List.of("invariant", "operand", "relation", "operand", ";", "component");
                        } else if (lexeme.equals("method") && into.methods.size() < 6) {
                            instead = List.of("method", "requires", "do", "assignment", "dos", "ensures", ";", "component");
                            into.methods.add(new ArrayList<>());
                            requires = 0;
                            dos = 1;
                            ensures = 0;
                        }
                        break;
                    case "requires":
                        instead = List.of();
                        if (lexeme.equals("require") && requires < 2) {
                            requires++;
                            instead = List.of("require", "operand", "relation", "operand", "requires");
                        }
                        break;
                    case "dos":
                        instead = List.of();
                        if (lexeme.equals("do") && dos < 3) {
                            dos++;
                            instead = List.of("do", "assignment", "dos");
                        }
                        break;
                    case "ensures":
                        instead = List.of();
                        if (lexeme.equals("ensure") && ensures < 2) {
                            ensures++;
                            instead = List.of("ensure", "valued", "relation", "valued", "ensures");
                        }
                        break;
                    case "assignment":
                        instead = List.of("field", "=", "operand", "rest");
                        break;
                    case "rest":
                        instead = lexeme.equals("+") || lexeme.equals("-") ? List.of(lexeme, "operand") : List.of();
                        break;
                    case "valued":
                        instead = lexeme.equals("old") ? List.of("old", "field") : List.of("operand");
                        break;
                    case "operand":
                        instead = List.of(lexeme.matches("[xyz]") ? "field" : "number");
                        break;
                    case "number":
                        instead = lexeme.equals("-") ? List.of("-", "digits") : List.of("digits");
                        break;
                    case "field":
                        taken = lexeme.matches("[xyz]");
                        break;
                    case "relation":
                        taken = lexeme.matches("[<=>]");
                        break;
                    case "digits":
                        taken = lexeme.matches("[0-9][0-9]?");
                        break;
                    default:
                        taken = lexeme.equals(wanted);
                        break;
                }
                if (instead == null && !taken) {
                    return offset;
                }
                for (int index = instead == null ? -1 : instead.size() - 1; index >= 0; index--) {
                    due.push(instead.get(index));
                }
            }
            if (List.of("init", "invariant", "method", "require", "do", "ensure", ";").contains(lexeme)) {
                keep(clause, into);
                clause = new ArrayList<>();
            }
            clause.add(lexeme);
        }
    }

    private static void keep(List<String> clause, Results into) {
        String word = clause.isEmpty() ? ";" : clause.get(0);
        if (word.equals("init")) {
            into.initial["xyz".indexOf(clause.get(1))] = new Reader(clause, 2).operand(null, null);
        } else if (word.equals("invariant")) {
            into.invariants.add(clause);
        } else if (List.of("require", "do", "ensure").contains(word)) {
            into.methods.get(into.methods.size() - 1).add(clause);
        }
    }

    /** Reads operands from a clause. */
    private static final class Reader {
        private final List<String> clause;
        private int next;

        Reader(List<String> clause, int next) {
            this.clause = clause;
            this.next = next;
        }

        String lexeme() {
            return next < clause.size() ? clause.get(next++) : "";
        }

        int operand(int[] before, int[] after) {
            String lexeme = lexeme();
            if (lexeme.equals("old")) {
                return before["xyz".indexOf(lexeme())];
            }
            if (lexeme.equals("-")) {
                return -Integer.parseInt(lexeme());
            }
            return "xyz".contains(lexeme) ? after["xyz".indexOf(lexeme)] : Integer.parseInt(lexeme);
        }
    }

    private static boolean holds(List<String> clause, int[] before, int[] after) {
        Reader reader = new Reader(clause, 1);
        int left = reader.operand(before, after);
        String relation = reader.lexeme();
        int order = Integer.compare(left, reader.operand(before, after));
        return relation.equals(order < 0 ? "<" : order > 0 ? ">" : "=");
    }

    /** The verdict of a call in the state, which becomes the state after it if the verdict is 0. */
    private int call(int method, int[] state) {
        List<List<String>> clauses = now.methods.get(method);
        int[] values = state.clone();
        for (List<String> clause : clauses) {
            if (clause.get(0).equals("require") && !holds(clause, state, state)) {
                return 1;
            }
        }
        for (List<String> clause : clauses) {
            if (clause.get(0).equals("do")) {
                Reader reader = new Reader(clause, 3);
                int result = reader.operand(values, values);
                String sign = reader.lexeme();
                if (!sign.isEmpty()) {
                    result += (sign.equals("+") ? 1 : -1) * reader.operand(values, values);
                }
                if (Math.abs(result) > 99) {
                    return 2;
                }
                values["xyz".indexOf(clause.get(1))] = result;
            }
        }
        for (List<String> clause : clauses) {
            if (clause.get(0).equals("ensure") && !holds(clause, state, values)) {
                return 3;
            }
        }
        for (List<String> invariant : now.invariants) {
            if (!holds(invariant, values, values)) {
                return 4;
            }
        }
        System.arraycopy(values, 0, state, 0, 3);
        return 0;
    }

    /** 0, or 10 times the number of the first call that isn't OK plus its verdict. */
    private int run(List<Integer> calls, int[] state) {
        System.arraycopy(now.initial, 0, state, 0, 3);
        for (int index = 0; index < calls.size(); index++) {
            int verdict = call(calls.get(index), state);
            if (verdict != 0) {
                return 10 * index + verdict;
            }
        }
        return 0;
    }

    private int[] stateOf(List<Integer> sequence) {
        int[] state = new int[3];
        run(sequence, state);
        return state;
    }

    int setInitialValue(int field, int value) {
        if (field < 0 || field > 2 || value < -99 || value > 99) {
            return INVALID_ARGUMENT;
        }
        remember();
        int previous = now.initial[field];
        now.initial[field] = value;
        now.reset();
        return 100 + previous;
    }

    int removeMethod(int method) {
        if (method < 0 || method >= now.methods.size()) {
            return INVALID_ARGUMENT;
        }
        remember();
        now.methods.remove(method);
        now.reset();
        return now.methods.size();
    }

    int methodCount() {
        return now.methods.size();
    }

    int complexity(int method) {
        if (method < 0 || method >= now.methods.size()) {
            return INVALID_ARGUMENT;
        }
        int complexity = 0;
        for (List<String> clause : now.methods.get(method)) {
            Reader reader = new Reader(clause, 3);
            complexity++;
            if (clause.get(0).equals("do")) {
                reader.operand(new int[3], new int[3]);
                complexity += reader.lexeme().isEmpty() ? 0 : 1;
            }
        }
        return complexity;
    }

    int runText() {
        List<Integer> calls = new ArrayList<>();
        for (int offset = 0; offset < text.length(); offset++) {
            int method = "0123456789".indexOf(text.charAt(offset));
            if (method < 0 || method >= now.methods.size()) {
                return -10 - offset;
            }
            calls.add(method);
        }
        text = "";
        return run(calls, new int[3]);
    }

    // Exploration

    int setMaximumLength(int length) {
        if (length < 1 || length > 8) {
            return INVALID_ARGUMENT;
        }
        remember();
        int previous = now.maximumLength;
        now.maximumLength = length;
        return previous;
    }

    private List<List<Integer>> open() {
        List<List<Integer>> open = new ArrayList<>();
        for (int sequence = 0; sequence < now.pool.size(); sequence++) {
            for (int method = 0; method < now.methods.size(); method++) {
                if (now.pool.get(sequence).size() < now.maximumLength
                        && !now.processed.contains(List.of(sequence, method))) {
                    open.add(List.of(sequence, method));
                }
            }
        }
        return open;
    }

    int explore(int steps) {
        if (steps < 1 || steps > 200) {
            return INVALID_ARGUMENT;
        }
        if (open().isEmpty()) {
            return INVALID_STATE;
        }
        remember();
        for (int step = 0; step < steps; step++) {
            List<List<Integer>> open = open();
            if (open.isEmpty()) {
                return step;
            }
            process(open.get(0));
        }
        return steps;
    }

    private void process(List<Integer> pair) {
        now.processed.add(pair);
        List<Integer> extended = new ArrayList<>(now.pool.get(pair.get(0)));
        extended.add(pair.get(1));
        int[] state = new int[3];
        int verdict = run(extended, state) % 10;
        if (verdict == 1) {
            now.skipped++;
        } else if (verdict > 1 ? now.failures.size() < 20 : false) {
            now.failures.add(extended);
        } else if (verdict > 1) {
            now.dropped++;
        } else if (findState(state[0], state[1], state[2]) != NONE) {
            now.redundant++;
        } else if (now.pool.size() < 40) {
            now.pool.add(extended);
        } else {
            now.dropped++;
        }
    }

    int reset() {
        if (now.processed.isEmpty()) {
            return INVALID_STATE;
        }
        remember();
        int sequences = now.pool.size();
        now.reset();
        return sequences;
    }

    int undo() {
        if (past.isEmpty()) {
            return INVALID_STATE;
        }
        now = past.removeLast();
        return past.size();
    }

    int openPairs() {
        return open().size();
    }

    int skippedPairs() {
        return now.skipped;
    }

    int redundantPairs() {
        return now.redundant;
    }

    int droppedPairs() {
        return now.dropped;
    }

    // The pool and the failures

    int poolSize() {
        return now.pool.size();
    }

    private static int length(List<List<Integer>> list, int number) {
        return number < 0 || number >= list.size() ? INVALID_ARGUMENT : list.get(number).size();
    }

    private static int call(List<List<Integer>> list, int number, int index) {
        if (number < 0 || number >= list.size() || index < 0) {
            return INVALID_ARGUMENT;
        }
        return index < list.get(number).size() ? list.get(number).get(index) : NONE;
    }

    int sequenceLength(int sequence) {
        return length(now.pool, sequence);
    }

    int sequenceCall(int sequence, int index) {
        return call(now.pool, sequence, index);
    }

    int finalValue(int sequence, int field) {
        boolean isThere = sequence >= 0 && sequence < now.pool.size() && field >= 0 && field < 3;
        return isThere ? stateOf(now.pool.get(sequence))[field] : NONE;
    }

    int enabledMethods(int sequence) {
        if (sequence < 0 || sequence >= now.pool.size()) {
            return INVALID_ARGUMENT;
        }
        int enabled = 0;
        for (int method = 0; method < now.methods.size(); method++) {
            if (call(method, stateOf(now.pool.get(sequence))) != 1) {
                enabled += 1 << method;
            }
        }
        return enabled;
    }

    int findState(int x, int y, int z) {
        for (int sequence = 0; sequence < now.pool.size(); sequence++) {
            if (Arrays.equals(stateOf(now.pool.get(sequence)), new int[] {x, y, z})) {
                return sequence;
            }
        }
        return NONE;
    }

    int failureCount() {
        return now.failures.size();
    }

    int failureLength(int failure) {
        return length(now.failures, failure);
    }

    int failureCall(int failure, int index) {
        return call(now.failures, failure, index);
    }

    int failureVerdict(int failure) {
        return failureLength(failure) < 0 ? INVALID_ARGUMENT : run(now.failures.get(failure), new int[3]) % 10;
    }

    private List<List<Integer>> minimized() {
        List<List<Integer>> minimized = new ArrayList<>();
        for (List<Integer> failure : now.failures) {
            minimized.add(minimized(failure, run(failure, new int[3]) % 10));
        }
        return minimized;
    }

    private List<Integer> minimized(List<Integer> failure, int verdict) {
        for (int considered = 0; considered < failure.size() - 1; considered++) {
            List<Integer> without = new ArrayList<>(failure);
            without.remove(considered);
            if (run(without, new int[3]) == 10 * (without.size() - 1) + verdict) {
                return minimized(without, verdict);
            }
        }
        return failure;
    }

    int minimizedLength(int failure) {
        return length(minimized(), failure);
    }

    int minimizedCall(int failure, int index) {
        return call(minimized(), failure, index);
    }
}
