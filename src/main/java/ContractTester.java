import java.util.ArrayList;

/**
 * Explores a small component with contracts by extending call sequences from a pool, collects the
 * sequences that fail, and minimizes them.
 */
public final class ContractTester {
    public static final int INVALID_ARGUMENT = -1;
    public static final int INVALID_STATE = -2;
    public static final int LIMIT_REACHED = -3;
    public static final int NONE = -1000;

    private static final int OK = 0;
    private static final int PRECONDITION = 1;
    private static final int RANGE = 2;
    private static final int POSTCONDITION = 3;
    private static final int INVARIANT = 4;

    private static final int FIELDS = 3;
    private static final int LOWEST_VALUE = -99;
    private static final int HIGHEST_VALUE = 99;
    private static final int HIGHEST_CHARACTER = 255;
    private static final int TEXT_CAPACITY = 200;
    private static final int INVARIANT_CAPACITY = 3;
    private static final int METHOD_CAPACITY = 6;
    private static final int CONDITION_CAPACITY = 2;
    private static final int ASSIGNMENT_CAPACITY = 3;
    private static final int POOL_CAPACITY = 40;
    private static final int FAILURE_CAPACITY = 20;
    private static final int EDIT_CAPACITY = 6;
    private static final int LONGEST_SEQUENCE = 8;
    private static final int FIRST_MAXIMUM_LENGTH = 5;
    private static final int MOST_STEPS = 200;

    /** What an answer about an error in the text counts down from. */
    private static final int TEXT_ERROR = -10;
    /** Keeps the answer of setInitialValue above the errors. */
    private static final int INITIAL_VALUE_SHIFT = 100;

    private final StringBuilder text;
    private final Parser parser;
    private final Exploration current;
    private final History history;
    private final State before;
    private final State after;
    private final Sequence shortest;
    private final Sequence candidate;

    public ContractTester() {
        text = new StringBuilder();
        parser = new Parser();
        current = new Exploration();
        history = new History();
        before = new State();
        after = new State();
        shortest = new Sequence();
        candidate = new Sequence();
    }

    // The component

    public int appendCharacter(int character) {
        if (character < 0 || character > HIGHEST_CHARACTER) {
            return INVALID_ARGUMENT;
        }
        if (text.length() >= TEXT_CAPACITY) {
            return LIMIT_REACHED;
        }
        text.append((char) character);
        return text.length();
    }

    public int clearText() {
        int length = text.length();
        text.setLength(0);
        return length;
    }

    public int loadComponent() {
        Component loaded = parser.parse(text);
        if (loaded == null) {
            return TEXT_ERROR - parser.errorOffset();
        }
        text.setLength(0);
        replaceComponent(loaded);
        return loaded.methods.size();
    }

    public int setInitialValue(int field, int value) {
        if (field < 0 || field >= FIELDS || value < LOWEST_VALUE || value > HIGHEST_VALUE) {
            return INVALID_ARGUMENT;
        }
        int previous = current.component.initial.valueOf(field);
        replaceComponent(current.component.withInitialValue(field, value));
        return INITIAL_VALUE_SHIFT + previous;
    }

    public int removeMethod(int method) {
        if (!current.component.hasMethod(method)) {
            return INVALID_ARGUMENT;
        }
        replaceComponent(current.component.withoutMethod(method));
        return current.component.methods.size();
    }

    public int methodCount() {
        return current.component.methods.size();
    }

    public int complexity(int method) {
        if (!current.component.hasMethod(method)) {
            return INVALID_ARGUMENT;
        }
        return current.component.methods.get(method).weight();
    }

    public int runText() {
        Component component = current.component;
        for (int offset = 0; offset < text.length(); offset++) {
            if (!component.hasMethod(text.charAt(offset) - '0')) {
                return TEXT_ERROR - offset;
            }
        }
        int answer = firstVerdictInText(component);
        text.setLength(0);
        return answer;
    }

    // Exploration

    public int setMaximumLength(int length) {
        if (length < 1 || length > LONGEST_SEQUENCE) {
            return INVALID_ARGUMENT;
        }
        history.remember(current);
        int previous = current.maximumLength;
        current.maximumLength = length;
        return previous;
    }

    public int explore(int steps) {
        if (steps < 1 || steps > MOST_STEPS) {
            return INVALID_ARGUMENT;
        }
        if (current.firstOpenSequence() == NONE) {
            return INVALID_STATE;
        }
        history.remember(current);
        int performed = 0;
        while (performed < steps && current.processFirstOpenPair()) {
            performed++;
        }
        return performed;
    }

    public int reset() {
        if (!current.hasProcessedPair()) {
            return INVALID_STATE;
        }
        history.remember(current);
        int sequences = current.poolCount;
        current.restart();
        return sequences;
    }

    public int undo() {
        if (history.isEmpty()) {
            return INVALID_STATE;
        }
        return history.restoreLatest(current);
    }

    public int openPairs() {
        return current.countOpenPairs();
    }

    public int skippedPairs() {
        return current.skipped;
    }

    public int redundantPairs() {
        return current.redundant;
    }

    public int droppedPairs() {
        return current.dropped;
    }

    // The pool

    public int poolSize() {
        return current.poolCount;
    }

    public int sequenceLength(int sequence) {
        if (!current.hasSequence(sequence)) {
            return INVALID_ARGUMENT;
        }
        return current.sequences[sequence].length;
    }

    public int sequenceCall(int sequence, int index) {
        if (!current.hasSequence(sequence) || index < 0) {
            return INVALID_ARGUMENT;
        }
        return current.sequences[sequence].callAt(index);
    }

    public int finalValue(int sequence, int field) {
        if (!current.hasSequence(sequence) || field < 0 || field >= FIELDS) {
            return NONE;
        }
        return current.states[sequence].valueOf(field);
    }

    public int enabledMethods(int sequence) {
        if (!current.hasSequence(sequence)) {
            return INVALID_ARGUMENT;
        }
        int enabled = 0;
        for (int method = 0; method < current.component.methods.size(); method++) {
            if (current.component.isEnabled(method, current.states[sequence])) {
                enabled |= 1 << method;
            }
        }
        return enabled;
    }

    public int findState(int x, int y, int z) {
        return current.sequenceWithState(x, y, z);
    }

    // Failures

    public int failureCount() {
        return current.failed;
    }

    public int failureLength(int failure) {
        if (!current.hasFailure(failure)) {
            return INVALID_ARGUMENT;
        }
        return current.failures[failure].length;
    }

    public int failureCall(int failure, int index) {
        if (!current.hasFailure(failure) || index < 0) {
            return INVALID_ARGUMENT;
        }
        return current.failures[failure].callAt(index);
    }

    public int failureVerdict(int failure) {
        if (!current.hasFailure(failure)) {
            return INVALID_ARGUMENT;
        }
        return current.verdicts[failure];
    }

    public int minimizedLength(int failure) {
        if (!current.hasFailure(failure)) {
            return INVALID_ARGUMENT;
        }
        minimize(current.failures[failure], current.verdicts[failure]);
        return shortest.length;
    }

    public int minimizedCall(int failure, int index) {
        if (!current.hasFailure(failure) || index < 0) {
            return INVALID_ARGUMENT;
        }
        minimize(current.failures[failure], current.verdicts[failure]);
        return shortest.callAt(index);
    }

    // What several of the calls share

    private void replaceComponent(Component component) {
        history.remember(current);
        current.component = component;
        current.restart();
    }

    /** Expects that each character of the text is the digit of an existing method. */
    private int firstVerdictInText(Component component) {
        before.copyFrom(component.initial);
        for (int call = 0; call < text.length(); call++) {
            int verdict = component.verdictOfCall(text.charAt(call) - '0', before, after);
            if (verdict != OK) {
                return 10 * call + verdict;
            }
            before.copyFrom(after);
        }
        return 0;
    }

    /** Leaves the minimized failure in shortest. */
    private void minimize(Sequence failure, int verdict) {
        shortest.copyFrom(failure);
        // Each round but the last takes one call away, so that there can't be more rounds than calls.
        boolean isShorter = true;
        for (int round = 0; round < LONGEST_SEQUENCE && isShorter; round++) {
            isShorter = dropOneCall(verdict);
        }
    }

    private boolean dropOneCall(int verdict) {
        for (int considered = 0; considered < shortest.length - 1; considered++) {
            candidate.copyWithout(shortest, considered);
            if (endsWithVerdict(candidate, verdict)) {
                shortest.copyFrom(candidate);
                return true;
            }
        }
        return false;
    }

    private boolean endsWithVerdict(Sequence sequence, int verdict) {
        Component component = current.component;
        before.copyFrom(component.initial);
        int last = sequence.length - 1;
        for (int index = 0; index < last; index++) {
            if (component.verdictOfCall(sequence.callAt(index), before, after) != OK) {
                return false;
            }
            before.copyFrom(after);
        }
        return component.verdictOfCall(sequence.callAt(last), before, after) == verdict;
    }

    /** The values of the three fields. */
    private static final class State {
        private int x;
        private int y;
        private int z;

        int valueOf(int field) {
            switch (field) {
                case 0:
                    return x;
                case 1:
                    return y;
                default:
                    return z;
            }
        }

        void assign(int field, int value) {
            switch (field) {
                case 0:
                    x = value;
                    break;
                case 1:
                    y = value;
                    break;
                default:
                    z = value;
                    break;
            }
        }

        void copyFrom(State other) {
            x = other.x;
            y = other.y;
            z = other.z;
        }

        boolean hasValues(int wantedX, int wantedY, int wantedZ) {
            return x == wantedX && y == wantedY && z == wantedZ;
        }
    }

    /** A number, or the value of a field before or after a call. */
    private static final class Operand {
        private static final int NUMBER = -1;
        private static final int OLD = FIELDS;

        /** The field, the field plus OLD, or NUMBER. */
        private final int source;
        private final int number;

        Operand(int source, int number) {
            this.source = source;
            this.number = number;
        }

        int valueIn(State before, State after) {
            switch (source) {
                case 0:
                    return after.x;
                case 1:
                    return after.y;
                case 2:
                    return after.z;
                case OLD:
                    return before.x;
                case OLD + 1:
                    return before.y;
                case OLD + 2:
                    return before.z;
                default:
                    return number;
            }
        }
    }

    /** A precondition, a postcondition or an invariant. */
    private static final class Condition {
        private final Operand left;
        private final int relation;
        private final Operand right;

        Condition(Operand left, int relation, Operand right) {
            this.left = left;
            this.relation = relation;
            this.right = right;
        }

        boolean holds(State before, State after) {
            int leftValue = left.valueIn(before, after);
            int rightValue = right.valueIn(before, after);
            switch (relation) {
                case '<':
                    return leftValue < rightValue;
                case '=':
                    return leftValue == rightValue;
                default:
                    return leftValue > rightValue;
            }
        }
    }

    private static final class Assignment {
        private final int field;
        private final Operand first;
        /** 1 for +, -1 for -, 0 where there is neither: the second operand counts for nothing then. */
        private final int sign;
        private final Operand second;

        Assignment(int field, Operand first, int sign, Operand second) {
            this.field = field;
            this.first = first;
            this.sign = sign;
            this.second = second;
        }

        int resultIn(State state) {
            return first.valueIn(state, state) + sign * second.valueIn(state, state);
        }
    }

    private static final class Method {
        private final ArrayList<Condition> preconditions = new ArrayList<Condition>();
        private final ArrayList<Assignment> assignments = new ArrayList<Assignment>();
        private final ArrayList<Condition> postconditions = new ArrayList<Condition>();

        int weight() {
            int weight = preconditions.size() + assignments.size() + postconditions.size();
            for (int index = 0; index < assignments.size(); index++) {
                if (assignments.get(index).sign != 0) {
                    weight++;
                }
            }
            return weight;
        }
    }

    /** Never changed once it is in use, so that the history may share it. */
    private static final class Component {
        private final State initial = new State();
        private final ArrayList<Condition> invariants = new ArrayList<Condition>();
        private final ArrayList<Method> methods = new ArrayList<Method>();

        Component withInitialValue(int field, int value) {
            Component changed = withoutMethod(NONE);
            changed.initial.assign(field, value);
            return changed;
        }

        Component withoutMethod(int leftOut) {
            Component copy = new Component();
            copy.initial.copyFrom(initial);
            for (int index = 0; index < invariants.size(); index++) {
                copy.invariants.add(invariants.get(index));
            }
            for (int index = 0; index < methods.size(); index++) {
                if (index != leftOut) {
                    copy.methods.add(methods.get(index));
                }
            }
            return copy;
        }

        boolean hasMethod(int method) {
            return method >= 0 && method < methods.size();
        }

        boolean isEnabled(int method, State state) {
            return hasMethod(method) && allHold(methods.get(method).preconditions, state, state);
        }

        /**
         * Changes after alone: its values are the state after the call if the verdict is OK. A method
         * that isn't there can't be called in any state.
         */
        int verdictOfCall(int method, State before, State after) {
            if (!hasMethod(method)) {
                return PRECONDITION;
            }
            Method called = methods.get(method);
            if (!allHold(called.preconditions, before, before)) {
                return PRECONDITION;
            }
            after.copyFrom(before);
            for (int index = 0; index < called.assignments.size(); index++) {
                Assignment assignment = called.assignments.get(index);
                int result = assignment.resultIn(after);
                if (result < LOWEST_VALUE || result > HIGHEST_VALUE) {
                    return RANGE;
                }
                after.assign(assignment.field, result);
            }
            if (!allHold(called.postconditions, before, after)) {
                return POSTCONDITION;
            }
            return allHold(invariants, before, after) ? OK : INVARIANT;
        }

        private static boolean allHold(ArrayList<Condition> conditions, State before, State after) {
            for (int index = 0; index < conditions.size(); index++) {
                if (!conditions.get(index).holds(before, after)) {
                    return false;
                }
            }
            return true;
        }
    }

    /**
     * The lexemes of a text, read from the first on. The code of a lexeme is its character if it is a
     * single letter or sign; the other codes lie above the characters.
     */
    private static final class Lexemes {
        private static final int INIT = 300;
        private static final int INVARIANT_WORD = 301;
        private static final int METHOD_WORD = 302;
        private static final int REQUIRE = 303;
        private static final int DO = 304;
        private static final int ENSURE = 305;
        private static final int OLD_WORD = 306;
        private static final int DIGITS = 307;
        private static final int UNKNOWN = 308;

        private static final int MOST_DIGITS = 2;

        private static final int SPACE_KIND = 0;
        private static final int LETTER_KIND = 1;
        private static final int DIGIT_KIND = 2;
        private static final int SIGN_KIND = 3;

        private final int[] codes = new int[TEXT_CAPACITY];
        private final int[] starts = new int[TEXT_CAPACITY];
        private final int[] numbers = new int[TEXT_CAPACITY];
        private int count;
        private int textLength;
        private int position;

        void scan(StringBuilder text) {
            count = 0;
            position = 0;
            textLength = text.length();
            for (int offset = 0; offset < textLength; offset++) {
                if (startsLexeme(text, offset) && count < TEXT_CAPACITY) {
                    int end = endOfLexeme(text, offset);
                    starts[count] = offset;
                    codes[count] = codeOf(text, offset, end);
                    numbers[count] = codes[count] == DIGITS ? numberOf(text, offset, end) : 0;
                    count++;
                }
            }
        }

        private static boolean startsLexeme(StringBuilder text, int offset) {
            int kind = kindOf(text.charAt(offset));
            if (kind == SPACE_KIND) {
                return false;
            }
            return kind == SIGN_KIND || offset == 0 || kind != kindOf(text.charAt(offset - 1));
        }

        private static int endOfLexeme(StringBuilder text, int start) {
            int kind = kindOf(text.charAt(start));
            int end = start + 1;
            while (end < text.length() && kind != SIGN_KIND && kindOf(text.charAt(end)) == kind) {
                end++;
            }
            return end;
        }

        private static int kindOf(char character) {
            if (character == ' ') {
                return SPACE_KIND;
            }
            if (character >= 'a' && character <= 'z') {
                return LETTER_KIND;
            }
            return character >= '0' && character <= '9' ? DIGIT_KIND : SIGN_KIND;
        }

        private static int codeOf(StringBuilder text, int start, int end) {
            if (kindOf(text.charAt(start)) == DIGIT_KIND) {
                return end - start <= MOST_DIGITS ? DIGITS : UNKNOWN;
            }
            if (end - start == 1) {
                return text.charAt(start);
            }
            return codeOfWord(text, start, end);
        }

        private static int codeOfWord(StringBuilder text, int start, int end) {
            if (isWord("init", text, start, end)) {
                return INIT;
            }
            if (isWord("invariant", text, start, end)) {
                return INVARIANT_WORD;
            }
            if (isWord("method", text, start, end)) {
                return METHOD_WORD;
            }
            if (isWord("require", text, start, end)) {
                return REQUIRE;
            }
            if (isWord("do", text, start, end)) {
                return DO;
            }
            if (isWord("ensure", text, start, end)) {
                return ENSURE;
            }
            return isWord("old", text, start, end) ? OLD_WORD : UNKNOWN;
        }

        private static boolean isWord(String word, StringBuilder text, int start, int end) {
            if (end - start != word.length()) {
                return false;
            }
            for (int index = 0; index < word.length(); index++) {
                if (text.charAt(start + index) != word.charAt(index)) {
                    return false;
                }
            }
            return true;
        }

        private static int numberOf(StringBuilder text, int start, int end) {
            int number = 0;
            for (int offset = start; offset < end; offset++) {
                number = 10 * number + text.charAt(offset) - '0';
            }
            return number;
        }

        boolean hasMore() {
            return position < count;
        }

        /** The offset of the lexeme to be read next, or the text's length after the last one. */
        int offset() {
            return position < count ? starts[position] : textLength;
        }

        boolean accept(int code) {
            if (position >= count || codes[position] != code) {
                return false;
            }
            position++;
            return true;
        }

        /** Answers NONE if the next lexeme isn't a field. */
        int acceptField() {
            for (int field = 0; field < FIELDS; field++) {
                if (accept('x' + field)) {
                    return field;
                }
            }
            return NONE;
        }

        /** Answers NONE if there is no number; a minus is read even where no digits follow. */
        int acceptNumber() {
            int sign = accept('-') ? -1 : 1;
            int number = position < count ? numbers[position] : 0;
            return accept(DIGITS) ? sign * number : NONE;
        }
    }

    /**
     * Reads a component from a text. No lexeme is read where it isn't allowed, so that in case of an
     * error the lexeme to be read next is the one that is in error.
     */
    private static final class Parser {
        private final Lexemes lexemes = new Lexemes();

        int errorOffset() {
            return lexemes.offset();
        }

        /** Answers null if the text is in error. */
        Component parse(StringBuilder text) {
            lexemes.scan(text);
            Component component = new Component();
            for (int declaration = 0; lexemes.hasMore() && declaration < TEXT_CAPACITY; declaration++) {
                boolean isRead = false;
                if (lexemes.accept(Lexemes.INIT)) {
                    isRead = readInitialValue(component);
                } else if (component.invariants.size() < INVARIANT_CAPACITY
                        && lexemes.accept(Lexemes.INVARIANT_WORD)) {
                    isRead = readCondition(component.invariants, false);
                } else if (component.methods.size() < METHOD_CAPACITY
                        && lexemes.accept(Lexemes.METHOD_WORD)) {
                    isRead = readMethod(component.methods);
                }
                if (!isRead || !lexemes.accept(';')) {
                    return null;
                }
            }
            return component;
        }

        private boolean readInitialValue(Component component) {
            int field = lexemes.acceptField();
            if (field == NONE) {
                return false;
            }
            int number = lexemes.acceptNumber();
            if (number == NONE) {
                return false;
            }
            component.initial.assign(field, number);
            return true;
        }

        private boolean readMethod(ArrayList<Method> methods) {
            Method method = new Method();
            if (!readConditions(method.preconditions, Lexemes.REQUIRE, false)
                    || !readAssignments(method.assignments)
                    || !readConditions(method.postconditions, Lexemes.ENSURE, true)) {
                return false;
            }
            methods.add(method);
            return true;
        }

        private boolean readConditions(ArrayList<Condition> conditions, int word, boolean allowsOld) {
            for (int read = 0; read < CONDITION_CAPACITY && lexemes.accept(word); read++) {
                if (!readCondition(conditions, allowsOld)) {
                    return false;
                }
            }
            return true;
        }

        private boolean readCondition(ArrayList<Condition> conditions, boolean allowsOld) {
            Operand left = readOperand(allowsOld);
            if (left == null) {
                return false;
            }
            int relation = readRelation();
            if (relation == NONE) {
                return false;
            }
            Operand right = readOperand(allowsOld);
            if (right == null) {
                return false;
            }
            conditions.add(new Condition(left, relation, right));
            return true;
        }

        private int readRelation() {
            if (lexemes.accept('<')) {
                return '<';
            }
            if (lexemes.accept('=')) {
                return '=';
            }
            return lexemes.accept('>') ? '>' : NONE;
        }

        private boolean readAssignments(ArrayList<Assignment> assignments) {
            for (int read = 0; read < ASSIGNMENT_CAPACITY && lexemes.accept(Lexemes.DO); read++) {
                if (!readAssignment(assignments)) {
                    return false;
                }
            }
            return !assignments.isEmpty();
        }

        private boolean readAssignment(ArrayList<Assignment> assignments) {
            int field = lexemes.acceptField();
            if (field == NONE || !lexemes.accept('=')) {
                return false;
            }
            Operand first = readOperand(false);
            if (first == null) {
                return false;
            }
            int sign = readSign();
            Operand second = sign == 0 ? first : readOperand(false);
            if (second == null) {
                return false;
            }
            assignments.add(new Assignment(field, first, sign, second));
            return true;
        }

        private int readSign() {
            if (lexemes.accept('+')) {
                return 1;
            }
            return lexemes.accept('-') ? -1 : 0;
        }

        /** Answers null if no operand stands here. */
        private Operand readOperand(boolean allowsOld) {
            if (allowsOld && lexemes.accept(Lexemes.OLD_WORD)) {
                int oldField = lexemes.acceptField();
                return oldField == NONE ? null : new Operand(Operand.OLD + oldField, 0);
            }
            int field = lexemes.acceptField();
            if (field != NONE) {
                return new Operand(field, 0);
            }
            int number = lexemes.acceptNumber();
            return number == NONE ? null : new Operand(Operand.NUMBER, number);
        }
    }

    /** A list of calls, of at most the greatest maximum length. */
    private static final class Sequence {
        private final int[] calls = new int[LONGEST_SEQUENCE];
        private int length;

        void append(int method) {
            if (length < LONGEST_SEQUENCE) {
                calls[length] = method;
                length++;
            }
        }

        /** Answers NONE where there is no such call. */
        int callAt(int index) {
            return index >= 0 && index < length ? calls[index] : NONE;
        }

        void copyFrom(Sequence other) {
            copyWithout(other, NONE);
        }

        void copyWithout(Sequence other, int leftOut) {
            length = 0;
            for (int index = 0; index < other.length; index++) {
                if (index != leftOut) {
                    append(other.callAt(index));
                }
            }
        }
    }

    /** The component, the maximum length and the results: all that undo restores. */
    private static final class Exploration {
        private Component component = new Component();
        private int maximumLength = FIRST_MAXIMUM_LENGTH;
        private final Sequence[] sequences = new Sequence[POOL_CAPACITY];
        private final State[] states = new State[POOL_CAPACITY];
        /** For each sequence how many methods are processed: always the first ones, as steps go in order. */
        private final int[] processed = new int[POOL_CAPACITY];
        private int poolCount;
        private final Sequence[] failures = new Sequence[FAILURE_CAPACITY];
        private final int[] verdicts = new int[FAILURE_CAPACITY];
        private int failed;
        private int skipped;
        private int redundant;
        private int dropped;
        private final State reached = new State();

        Exploration() {
            for (int sequence = 0; sequence < POOL_CAPACITY; sequence++) {
                sequences[sequence] = new Sequence();
                states[sequence] = new State();
            }
            for (int failure = 0; failure < FAILURE_CAPACITY; failure++) {
                failures[failure] = new Sequence();
            }
            poolCount = 1;
        }

        /** Sequence 0 is the empty one at all times. */
        void restart() {
            states[0].copyFrom(component.initial);
            processed[0] = 0;
            poolCount = 1;
            failed = 0;
            skipped = 0;
            redundant = 0;
            dropped = 0;
        }

        void copyFrom(Exploration other) {
            component = other.component;
            maximumLength = other.maximumLength;
            for (int sequence = 0; sequence < POOL_CAPACITY; sequence++) {
                sequences[sequence].copyFrom(other.sequences[sequence]);
                states[sequence].copyFrom(other.states[sequence]);
                processed[sequence] = other.processed[sequence];
            }
            poolCount = other.poolCount;
            for (int failure = 0; failure < FAILURE_CAPACITY; failure++) {
                failures[failure].copyFrom(other.failures[failure]);
                verdicts[failure] = other.verdicts[failure];
            }
            failed = other.failed;
            skipped = other.skipped;
            redundant = other.redundant;
            dropped = other.dropped;
        }

        boolean hasSequence(int sequence) {
            return sequence >= 0 && sequence < poolCount && sequence < POOL_CAPACITY;
        }

        boolean hasFailure(int failure) {
            return failure >= 0 && failure < failed && failure < FAILURE_CAPACITY;
        }

        boolean hasProcessedPair() {
            for (int sequence = 0; sequence < POOL_CAPACITY; sequence++) {
                if (hasSequence(sequence) && processed[sequence] > 0) {
                    return true;
                }
            }
            return false;
        }

        int countOpenPairs() {
            int open = 0;
            for (int sequence = 0; sequence < POOL_CAPACITY; sequence++) {
                open += openPairsOf(sequence);
            }
            return open;
        }

        int firstOpenSequence() {
            for (int sequence = 0; sequence < POOL_CAPACITY; sequence++) {
                if (openPairsOf(sequence) > 0) {
                    return sequence;
                }
            }
            return NONE;
        }

        private int openPairsOf(int sequence) {
            if (!hasSequence(sequence) || sequences[sequence].length >= maximumLength) {
                return 0;
            }
            return component.methods.size() - processed[sequence];
        }

        int sequenceWithState(int x, int y, int z) {
            for (int sequence = 0; sequence < POOL_CAPACITY; sequence++) {
                if (hasSequence(sequence) && states[sequence].hasValues(x, y, z)) {
                    return sequence;
                }
            }
            return NONE;
        }

        /** Answers false if there is no open pair. */
        boolean processFirstOpenPair() {
            int sequence = firstOpenSequence();
            if (!hasSequence(sequence)) {
                return false;
            }
            int method = processed[sequence];
            processed[sequence]++;
            int verdict = component.verdictOfCall(method, states[sequence], reached);
            if (verdict == PRECONDITION) {
                skipped++;
            } else if (verdict == OK) {
                addReached(sequences[sequence], method);
            } else {
                addFailure(sequences[sequence], method, verdict);
            }
            return true;
        }

        private void addReached(Sequence extended, int method) {
            if (sequenceWithState(reached.x, reached.y, reached.z) != NONE) {
                redundant++;
            } else if (poolCount >= POOL_CAPACITY) {
                dropped++;
            } else {
                sequences[poolCount].copyFrom(extended);
                sequences[poolCount].append(method);
                states[poolCount].copyFrom(reached);
                processed[poolCount] = 0;
                poolCount++;
            }
        }

        private void addFailure(Sequence extended, int method, int verdict) {
            if (failed >= FAILURE_CAPACITY) {
                dropped++;
            } else {
                failures[failed].copyFrom(extended);
                failures[failed].append(method);
                verdicts[failed] = verdict;
                failed++;
            }
        }
    }

    /** What was before the latest edits, in a ring: the oldest gives way to a seventh. */
    private static final class History {
        private final Exploration[] saved = new Exploration[EDIT_CAPACITY];
        private int latest;
        private int count;

        History() {
            for (int edit = 0; edit < EDIT_CAPACITY; edit++) {
                saved[edit] = new Exploration();
            }
        }

        boolean isEmpty() {
            return count == 0;
        }

        void remember(Exploration exploration) {
            latest = latest < EDIT_CAPACITY - 1 ? latest + 1 : 0;
            saved[latest].copyFrom(exploration);
            if (count < EDIT_CAPACITY) {
                count++;
            }
        }

        /** Answers how many edits can still be undone. */
        int restoreLatest(Exploration exploration) {
            exploration.copyFrom(saved[latest]);
            latest = latest > 0 ? latest - 1 : EDIT_CAPACITY - 1;
            count--;
            return count;
        }
    }
}
