import java.util.Arrays;
import java.util.NoSuchElementException;

/** A contract checker for an event-driven state machine. README.md tells how to use it. */
public final class ContractMachine {
    public static final int NONE = -1;
    public static final int NO_ERROR = 0;
    public static final int SYNTAX = 1;
    public static final int OUT_OF_RANGE = 2;
    public static final int DUPLICATE_NAME = 3;
    public static final int UNKNOWN_NAME = 4;
    public static final int TOO_MANY = 5;
    public static final int INCOMPLETE = 6;
    public static final int BROKEN_AT_START = 7;
    public static final int ACCEPTED = 0;
    public static final int NO_TRANSITION = 1;
    public static final int GUARD_FAILED = 2;
    public static final int OUT_OF_BOUNDS = 3;
    public static final int INVARIANT_BROKEN = 4;
    public static final int BELOW = 0;
    public static final int ATMOST = 1;
    public static final int EQUALS = 2;
    public static final int DIFFERS = 3;
    public static final int ATLEAST = 4;
    public static final int ABOVE = 5;

    private static final int MAX_STATES = 10;
    private static final int MAX_EVENTS = 8;
    private static final int MAX_VARIABLES = 3;
    private static final int MAX_TRANSITIONS = 24;
    private static final int MAX_INVARIANTS = 12;
    private static final int MAX_LETTERS = 6;
    private static final int MAX_VALUE = 9;
    private static final int MAX_INPUT = 700;
    private static final int MAX_WORD = 8;
    private static final int MAX_DIGITS = 3;
    private static final int MAX_STATEMENTS = 30;
    private static final int MAX_TRACE = 20;
    private static final int MAX_UNDO = 8;
    private static final int MAX_OUTPUT = 40;
    private static final int APPENDED = 20;
    private static final int VERDICTS = 5;
    private static final int CONFIGURATIONS = 10000;

    private static final int END = 0;
    private static final int WORD = 1;
    private static final int NUMBER = 2;
    private static final int SEMICOLON = 3;
    private static final int NO_TOKEN = 4;

    private static final int ADD = 0;
    private static final int SUB = 1;
    private static final int SET = 2;

    private static final int DO_FIRE = 0;
    private static final int DO_SET = 1;
    private static final int DO_RESET = 2;
    private static final int DO_CLEAR = 3;

    private static final String FIRST_NAMES =
        "state idle;state busy;state full;event coin;event push;event take;var coins 0;var cups 3;";
    private static final String FIRST_COINS =
        "on idle coin goto busy do coins add 1;on busy coin goto full when coins above 2 do coins add 1;on busy coin goto busy do coins add 1;";
    private static final String FIRST_CUPS =
        "on busy push goto idle when coins atleast 2 do cups sub 1;on full push goto idle do coins set 0;on idle take goto idle do coins sub 1;";
    private static final String FIRST_INVARIANTS =
        "always coins atmost 5;inside idle cups atleast 1;";

    private final Input input = new Input();
    private final Script script = new Script();
    private final Standing now = new Standing();
    private final Standing saved = new Standing();
    private final History history = new History();
    private final Step step = new Step();
    private final Search search = new Search();
    private final int[] output = new int[MAX_OUTPUT];
    private Rules rules = new Rules();
    // A setup text is read into this one, so that a text with an error leaves the machine as it was.
    private Rules draft = new Rules();
    private int outputLength;
    private int reportedCode = NO_ERROR;
    private int reportedOffset = NONE;
    private boolean isSaved;

    public ContractMachine() {
        input.put(FIRST_NAMES);
        input.put(FIRST_COINS);
        input.put(FIRST_CUPS);
        input.put(FIRST_INVARIANTS);
        rules.read(input);
        input.length = 0;
        now.begin(rules);
    }

    // ---- texts

    public int appendInput(int a, int b, int c, int d, int e) {
        if (input.length + APPENDED > MAX_INPUT) {
            return NONE;
        }
        input.putFour(a);
        input.putFour(b);
        input.putFour(c);
        input.putFour(d);
        input.putFour(e);
        return input.length;
    }

    public boolean truncateInput(int length) {
        if (length < 0 || length > input.length) {
            return false;
        }
        input.length = length;
        return true;
    }

    public int loadMachine() {
        draft.read(input);
        report();
        if (reportedCode != NO_ERROR) {
            return NONE;
        }
        Rules former = rules;
        rules = draft;
        draft = former;
        now.begin(rules);
        history.count = 0;
        isSaved = false;
        search.isCurrent = false;
        return rules.states.count;
    }

    public int runScript() {
        script.read(input, rules);
        report();
        if (reportedCode != NO_ERROR) {
            return NONE;
        }
        remember();
        int executed = 0;
        while (executed < script.count && executed < MAX_STATEMENTS && execute(executed)) {
            executed++;
        }
        return executed;
    }

    public int errorCode() {
        return reportedCode;
    }

    public int errorOffset() {
        return reportedOffset;
    }

    // ---- the machine

    public int stateCount() {
        return rules.states.count;
    }

    public int eventCount() {
        return rules.events.count;
    }

    public int variableCount() {
        return rules.variables.count;
    }

    public int transitionCount() {
        return rules.transitionCount;
    }

    public int invariantCount() {
        return now.invariants.count;
    }

    public int stateNameByte(int state, int index) throws IndexOutOfBoundsException {
        requireIndex(state, rules.states.count);
        return rules.states.letter(state, index);
    }

    public int eventNameByte(int event, int index) throws IndexOutOfBoundsException {
        requireIndex(event, rules.events.count);
        return rules.events.letter(event, index);
    }

    public int variableNameByte(int variable, int index) throws IndexOutOfBoundsException {
        requireIndex(variable, rules.variables.count);
        return rules.variables.letter(variable, index);
    }

    public int currentState() {
        return now.at.state;
    }

    public int valueOf(int variable) throws IndexOutOfBoundsException {
        requireIndex(variable, rules.variables.count);
        return now.at.values[variable];
    }

    public int initialValueOf(int variable) throws IndexOutOfBoundsException {
        requireIndex(variable, rules.variables.count);
        return rules.initial.values[variable];
    }

    public int sourceOf(int transition) throws IndexOutOfBoundsException {
        requireIndex(transition, rules.transitionCount);
        return rules.source[transition];
    }

    public int eventOf(int transition) throws IndexOutOfBoundsException {
        requireIndex(transition, rules.transitionCount);
        return rules.event[transition];
    }

    public int targetOf(int transition) throws IndexOutOfBoundsException {
        requireIndex(transition, rules.transitionCount);
        return rules.target[transition];
    }

    public boolean hasGuard(int transition) throws IndexOutOfBoundsException {
        requireIndex(transition, rules.transitionCount);
        return rules.guardOperator[transition] != NONE;
    }

    public boolean guardHolds(int transition) throws IndexOutOfBoundsException {
        requireIndex(transition, rules.transitionCount);
        return rules.allows(transition, now.at);
    }

    public int stateOfInvariant(int invariant) throws IndexOutOfBoundsException {
        requireIndex(invariant, now.invariants.count);
        return now.invariants.state[invariant];
    }

    public boolean comparisonHolds(int invariant) throws IndexOutOfBoundsException {
        requireIndex(invariant, now.invariants.count);
        return now.invariants.compares(invariant, now.at);
    }

    // ---- verdicts

    public int verdictOf(int event) throws IndexOutOfBoundsException {
        requireIndex(event, rules.events.count);
        step.attempt(rules, now.invariants, now.at, event);
        return step.verdict;
    }

    public int chosenTransition(int event) throws IndexOutOfBoundsException {
        requireIndex(event, rules.events.count);
        step.attempt(rules, now.invariants, now.at, event);
        return step.transition;
    }

    public int brokenInvariant(int event) throws IndexOutOfBoundsException {
        requireIndex(event, rules.events.count);
        step.attempt(rules, now.invariants, now.at, event);
        return step.broken;
    }

    public boolean isDeadlocked() {
        for (int event = 0; event < rules.events.count; event++) {
            step.attempt(rules, now.invariants, now.at, event);
            if (step.verdict == ACCEPTED) {
                return false;
            }
        }
        return true;
    }

    // ---- coverage

    public int timesTaken(int transition) throws IndexOutOfBoundsException {
        requireIndex(transition, rules.transitionCount);
        return now.coverage.taken[transition];
    }

    public int visitsOf(int state) throws IndexOutOfBoundsException {
        requireIndex(state, rules.states.count);
        return now.coverage.visits[state];
    }

    public int acceptedCount() {
        return now.coverage.accepted;
    }

    public int rejectedCount() {
        return now.coverage.rejected;
    }

    public int rejectedWith(int verdict) throws IllegalArgumentException {
        requireArgument(verdict > ACCEPTED && verdict < VERDICTS);
        return now.coverage.rejectedBy[verdict];
    }

    public float stateCoverage() {
        int states = rules.states.count;
        // There is always a state; the test keeps the division free of NaN for the reader's eye too.
        return states == 0 ? 1 : (float) now.coverage.visitedStates(states) / (float) states;
    }

    public float transitionCoverage() {
        int transitions = rules.transitionCount;
        return transitions == 0 ? 1 : (float) now.coverage.takenTransitions(transitions) / (float) transitions;
    }

    public int firstUncovered() {
        for (int transition = 0; transition < rules.transitionCount; transition++) {
            if (now.coverage.taken[transition] == 0) {
                return transition;
            }
        }
        return NONE;
    }

    public int mostVisitedState() {
        int most = 0;
        for (int state = 1; state < rules.states.count; state++) {
            if (now.coverage.visits[state] > now.coverage.visits[most]) {
                most = state;
            }
        }
        return most;
    }

    public int traceLength() {
        return now.coverage.traceLength;
    }

    public int traceEvent(int back) {
        int transition = now.coverage.traced(back);
        return transition == NONE ? NONE : rules.event[transition];
    }

    public int traceTransition(int back) {
        return now.coverage.traced(back);
    }

    // ---- reachability

    public int reachableCount() {
        lookAhead();
        return search.count;
    }

    public boolean isReachable(int state) throws IndexOutOfBoundsException {
        requireIndex(state, rules.states.count);
        lookAhead();
        return search.stateSteps[state] != NONE;
    }

    public boolean canBeTaken(int transition) throws IndexOutOfBoundsException {
        requireIndex(transition, rules.transitionCount);
        lookAhead();
        return search.takeable[transition];
    }

    public int stepsTo(int state) throws IndexOutOfBoundsException {
        requireIndex(state, rules.states.count);
        lookAhead();
        return search.stateSteps[state];
    }

    public int firstEventTo(int state) throws IndexOutOfBoundsException {
        requireIndex(state, rules.states.count);
        lookAhead();
        return search.stateFirst[state];
    }

    public int deadlockCount() {
        lookAhead();
        return search.deadlocks;
    }

    public int stepsToDeadlock() {
        lookAhead();
        return search.deadlockSteps;
    }

    public boolean isConsistent() {
        lookAhead();
        return now.invariants.firstBroken(now.at) == NONE
            && now.coverage.addsUp()
            && search.count == search.countInDepth(rules, now.invariants, now.at);
    }

    public double meanValue() {
        int variables = rules.variables.count;
        int sum = 0;
        for (int variable = 0; variable < variables; variable++) {
            sum += now.at.values[variable];
        }
        return variables == 0 ? 0 : (double) sum / (double) variables;
    }

    // ---- changes

    public int fire(int event) throws IndexOutOfBoundsException {
        requireIndex(event, rules.events.count);
        remember();
        return happen(event);
    }

    public int setValue(int variable, int value)
            throws IndexOutOfBoundsException, IllegalArgumentException, IllegalStateException {
        requireIndex(variable, rules.variables.count);
        requireArgument(value >= 0 && value <= MAX_VALUE);
        requireState(keepsInvariants(variable, value));
        remember();
        int former = now.at.values[variable];
        now.at.values[variable] = value;
        return former;
    }

    public int reset() {
        remember();
        int former = now.at.state;
        startAgain();
        return former;
    }

    public int clearCoverage() {
        remember();
        int former = now.coverage.accepted;
        now.coverage.begin(now.at.state);
        return former;
    }

    public int addAlways(int variable, int operator, int constant)
            throws IndexOutOfBoundsException, IllegalArgumentException, IllegalStateException {
        requireIndex(variable, rules.variables.count);
        requireArgument(operator >= BELOW && operator <= ABOVE && constant >= 0 && constant <= MAX_VALUE);
        requireState(now.invariants.count < MAX_INVARIANTS
            && relates(now.at.values[variable], operator, constant)
            && relates(rules.initial.values[variable], operator, constant));
        remember();
        now.invariants.add(NONE, variable, operator, constant);
        return now.invariants.count - 1;
    }

    public int undo() throws NoSuchElementException {
        requireElement(history.count > 0);
        history.takeBack(now);
        search.isCurrent = false;
        return history.count;
    }

    // ---- output and the saved state

    public int writeConfiguration() {
        outputLength = 0;
        writeName(rules.states, now.at.state);
        for (int variable = 0; variable < rules.variables.count; variable++) {
            writeByte(' ');
            writeName(rules.variables, variable);
            writeByte('=');
            writeByte('0' + now.at.values[variable]);
        }
        return outputLength;
    }

    public int outputByte(int index) {
        return index < 0 || index >= outputLength ? NONE : output[index];
    }

    public int saveState() {
        saved.become(now);
        isSaved = true;
        return now.at.state;
    }

    public int restoreState() throws NoSuchElementException {
        requireElement(isSaved);
        now.become(saved);
        history.count = 0;
        search.isCurrent = false;
        return now.at.state;
    }

    // ---- what several calls share

    private static void requireIndex(int index, int count) {
        if (index < 0 || index >= count) {
            throw new IndexOutOfBoundsException("there is no such index");
        }
    }

    private static void requireArgument(boolean fits) {
        if (!fits) {
            throw new IllegalArgumentException("an argument is out of range");
        }
    }

    private static void requireState(boolean fits) {
        if (!fits) {
            throw new IllegalStateException("the contract does not allow it");
        }
    }

    private static void requireElement(boolean isThere) {
        if (!isThere) {
            throw new NoSuchElementException("there is nothing to go back to");
        }
    }

    private static boolean relates(int value, int operator, int constant) {
        switch (operator) {
            case BELOW:
                return value < constant;
            case ATMOST:
                return value <= constant;
            case EQUALS:
                return value == constant;
            case DIFFERS:
                return value != constant;
            case ATLEAST:
                return value >= constant;
            default:
                return value > constant;
        }
    }

    /** Ends the reading of a text: its error is reported, and the buffer is empty in any case. */
    private void report() {
        reportedCode = input.failure;
        reportedOffset = input.failureOffset;
        input.length = 0;
    }

    /** Every change begins here, so what was found by searching is out of date too. */
    private void remember() {
        history.keep(now);
        search.isCurrent = false;
    }

    private void lookAhead() {
        if (!search.isCurrent) {
            search.runInBreadth(rules, now.invariants, now.at);
            search.isCurrent = true;
        }
    }

    private int happen(int event) {
        step.attempt(rules, now.invariants, now.at, event);
        if (step.verdict == ACCEPTED) {
            now.at.become(step.next);
            now.coverage.accept(step.transition, now.at.state);
        } else {
            now.coverage.reject(step.verdict);
        }
        return step.verdict;
    }

    private boolean keepsInvariants(int variable, int value) {
        step.next.become(now.at);
        step.next.values[variable] = value;
        return now.invariants.firstBroken(step.next) == NONE;
    }

    private void startAgain() {
        now.at.become(rules.initial);
        now.coverage.traceLength = 0;
    }

    /** Tells whether the statement was executed; the one that would throw has no effect. */
    private boolean execute(int statement) {
        int index = script.index[statement];
        switch (script.kind[statement]) {
            case DO_FIRE:
                happen(index);
                return true;
            case DO_SET:
                if (!keepsInvariants(index, script.value[statement])) {
                    return false;
                }
                now.at.values[index] = script.value[statement];
                return true;
            case DO_RESET:
                startAgain();
                return true;
            default:
                now.coverage.begin(now.at.state);
                return true;
        }
    }

    private void writeName(Names names, int name) {
        for (int i = 0; i < names.lengths[name]; i++) {
            writeByte(names.letters[name][i]);
        }
    }

    private void writeByte(int b) {
        if (outputLength < MAX_OUTPUT) {
            output[outputLength] = b;
            outputLength++;
        }
    }

    /** A state together with a value for each variable; variables that the machine lacks stay 0. */
    private static final class Configuration {
        int state;
        final int[] values = new int[MAX_VARIABLES];

        void become(Configuration other) {
            state = other.state;
            System.arraycopy(other.values, 0, values, 0, MAX_VARIABLES);
        }

        /** A number below CONFIGURATIONS, another one for each configuration. */
        int toCode() {
            return state * 1000 + values[0] * 100 + values[1] * 10 + values[2];
        }

        void fromCode(int code) {
            state = code / 1000;
            values[0] = code / 100 % 10;
            values[1] = code / 10 % 10;
            values[2] = code % 10;
        }
    }

    /** The names of one kind, in the order of their declaration. */
    private static final class Names {
        // Room for as many as the kind with most names may have.
        final int[][] letters = new int[MAX_STATES][MAX_LETTERS];
        final int[] lengths = new int[MAX_STATES];
        int count;

        int letter(int name, int index) {
            return index < 0 || index >= lengths[name] ? NONE : letters[name][index];
        }

        int indexOf(Input in) {
            for (int name = 0; name < count; name++) {
                if (isSame(name, in)) {
                    return name;
                }
            }
            return NONE;
        }

        void add(Input in) {
            int length = in.end - in.start;
            if (count >= MAX_STATES || length > MAX_LETTERS) {
                return;
            }
            for (int i = 0; i < length; i++) {
                letters[count][i] = in.bytes[in.start + i];
            }
            lengths[count] = length;
            count++;
        }

        private boolean isSame(int name, Input in) {
            if (in.end - in.start != lengths[name]) {
                return false;
            }
            for (int i = 0; i < lengths[name]; i++) {
                if (letters[name][i] != in.bytes[in.start + i]) {
                    return false;
                }
            }
            return true;
        }
    }

    /** The input buffer, the token that is looked at, and the first error that was met. */
    private static final class Input {
        final int[] bytes = new int[MAX_INPUT];
        int length;
        int kind;
        int start;
        int end;
        int number;
        int failure;
        int failureOffset;

        void putFour(int four) {
            putByte(four >>> 24);
            putByte(four >>> 16 & 255);
            putByte(four >>> 8 & 255);
            putByte(four & 255);
        }

        void put(String text) {
            for (int i = 0; i < text.length(); i++) {
                putByte(text.charAt(i));
            }
        }

        private void putByte(int b) {
            if (length < MAX_INPUT) {
                bytes[length] = b;
                length++;
            }
        }

        void begin() {
            failure = NO_ERROR;
            failureOffset = NONE;
            end = 0;
            next();
        }

        boolean hasFailed() {
            return failure != NO_ERROR;
        }

        boolean goesOn() {
            return failure == NO_ERROR && kind != END;
        }

        /** Only the first error counts: after it nothing is read any more. */
        void fail(int code) {
            if (failure == NO_ERROR) {
                failure = code;
                failureOffset = start;
            }
        }

        /** A word or a number that is too long is no token: either way it has no place where it stands. */
        void next() {
            start = end;
            while (start < length && (bytes[start] == ' ' || bytes[start] == '\n')) {
                start++;
            }
            end = start;
            number = 0;
            while (end < length && bytes[end] >= 'a' && bytes[end] <= 'z') {
                end++;
            }
            if (end > start) {
                kind = end - start > MAX_WORD ? NO_TOKEN : WORD;
                return;
            }
            while (end < length && bytes[end] >= '0' && bytes[end] <= '9') {
                number = number * 10 + bytes[end] - '0';
                end++;
            }
            if (end > start) {
                kind = end - start > MAX_DIGITS ? NO_TOKEN : NUMBER;
            } else if (start >= length) {
                kind = END;
            } else {
                kind = bytes[start] == ';' ? SEMICOLON : NO_TOKEN;
                end++;
            }
        }

        boolean sees(String word) {
            if (failure != NO_ERROR || kind != WORD || end - start != word.length()) {
                return false;
            }
            for (int i = 0; i < word.length(); i++) {
                if (bytes[start + i] != word.charAt(i)) {
                    return false;
                }
            }
            return true;
        }

        boolean takes(String word) {
            if (!sees(word)) {
                return false;
            }
            next();
            return true;
        }

        void expect(String word) {
            if (!takes(word)) {
                fail(SYNTAX);
            }
        }

        /** Passes the first word of a statement, which is the place where too many are told. */
        void beginStatement(boolean hasRoom) {
            if (hasRoom) {
                next();
            } else {
                fail(TOO_MANY);
            }
        }

        void endStatement() {
            if (failure == NO_ERROR && kind == SEMICOLON) {
                next();
            } else {
                fail(SYNTAX);
            }
        }

        private boolean seesName() {
            if (failure == NO_ERROR && kind == WORD && end - start <= MAX_LETTERS) {
                return true;
            }
            fail(SYNTAX);
            return false;
        }

        void readNewName(Names names) {
            if (!seesName()) {
                return;
            }
            if (names.indexOf(this) != NONE) {
                fail(DUPLICATE_NAME);
                return;
            }
            names.add(this);
            next();
        }

        int readName(Names names) {
            if (!seesName()) {
                return NONE;
            }
            int index = names.indexOf(this);
            if (index == NONE) {
                fail(UNKNOWN_NAME);
            } else {
                next();
            }
            return index;
        }

        int readValue() {
            if (failure != NO_ERROR || kind != NUMBER) {
                fail(SYNTAX);
                return NONE;
            }
            if (number > MAX_VALUE) {
                fail(OUT_OF_RANGE);
                return NONE;
            }
            int value = number;
            next();
            return value;
        }

        int readOperator() {
            if (takes("below")) {
                return BELOW;
            }
            if (takes("atmost")) {
                return ATMOST;
            }
            if (takes("equals")) {
                return EQUALS;
            }
            if (takes("differs")) {
                return DIFFERS;
            }
            if (takes("atleast")) {
                return ATLEAST;
            }
            if (takes("above")) {
                return ABOVE;
            }
            fail(SYNTAX);
            return NONE;
        }

        int readAction() {
            if (takes("add")) {
                return ADD;
            }
            if (takes("sub")) {
                return SUB;
            }
            if (takes("set")) {
                return SET;
            }
            fail(SYNTAX);
            return NONE;
        }
    }

    /** The invariants; the state of one that holds always is NONE. */
    private static final class Invariants {
        int count;
        final int[] state = new int[MAX_INVARIANTS];
        final int[] variable = new int[MAX_INVARIANTS];
        final int[] operator = new int[MAX_INVARIANTS];
        final int[] constant = new int[MAX_INVARIANTS];

        void add(int inState, int ofVariable, int byOperator, int withConstant) {
            if (count >= MAX_INVARIANTS) {
                return;
            }
            state[count] = inState;
            variable[count] = ofVariable;
            operator[count] = byOperator;
            constant[count] = withConstant;
            count++;
        }

        boolean compares(int invariant, Configuration at) {
            return relates(at.values[variable[invariant]], operator[invariant], constant[invariant]);
        }

        int firstBroken(Configuration at) {
            for (int i = 0; i < count; i++) {
                if ((state[i] == NONE || state[i] == at.state) && !compares(i, at)) {
                    return i;
                }
            }
            return NONE;
        }

        void become(Invariants other) {
            count = other.count;
            System.arraycopy(other.state, 0, state, 0, MAX_INVARIANTS);
            System.arraycopy(other.variable, 0, variable, 0, MAX_INVARIANTS);
            System.arraycopy(other.operator, 0, operator, 0, MAX_INVARIANTS);
            System.arraycopy(other.constant, 0, constant, 0, MAX_INVARIANTS);
        }
    }

    /** What a setup text declares. Invariants that are added later stand in a Standing alone. */
    private static final class Rules {
        final Names states = new Names();
        final Names events = new Names();
        final Names variables = new Names();
        final Configuration initial = new Configuration();
        final Invariants invariants = new Invariants();
        int transitionCount;
        final int[] source = new int[MAX_TRANSITIONS];
        final int[] event = new int[MAX_TRANSITIONS];
        final int[] target = new int[MAX_TRANSITIONS];
        final int[] guardVariable = new int[MAX_TRANSITIONS];
        // NONE where there is no guard; likewise for the action.
        final int[] guardOperator = new int[MAX_TRANSITIONS];
        final int[] guardConstant = new int[MAX_TRANSITIONS];
        final int[] actionVariable = new int[MAX_TRANSITIONS];
        final int[] action = new int[MAX_TRANSITIONS];
        final int[] actionConstant = new int[MAX_TRANSITIONS];

        boolean allows(int transition, Configuration at) {
            return guardOperator[transition] == NONE
                || relates(at.values[guardVariable[transition]], guardOperator[transition], guardConstant[transition]);
        }

        /** After an error the rows hold what is no index; such rules are never used. */
        void read(Input in) {
            clear();
            in.begin();
            // A statement takes a byte at least, or fails.
            for (int i = 0; i < MAX_INPUT && in.goesOn(); i++) {
                readStatement(in);
            }
            if (in.hasFailed()) {
                return;
            }
            if (states.count == 0 || events.count == 0 || variables.count == 0) {
                in.fail(INCOMPLETE);
            } else if (invariants.firstBroken(initial) != NONE) {
                in.fail(BROKEN_AT_START);
            }
        }

        private void clear() {
            states.count = 0;
            events.count = 0;
            variables.count = 0;
            transitionCount = 0;
            invariants.count = 0;
            // A text with an error may have left here what is no value.
            Arrays.fill(initial.values, 0);
        }

        private void readStatement(Input in) {
            if (in.sees("state")) {
                in.beginStatement(states.count < MAX_STATES);
                in.readNewName(states);
            } else if (in.sees("event")) {
                in.beginStatement(events.count < MAX_EVENTS);
                in.readNewName(events);
            } else if (in.sees("var")) {
                in.beginStatement(variables.count < MAX_VARIABLES);
                readVariable(in);
            } else if (in.sees("on")) {
                in.beginStatement(transitionCount < MAX_TRANSITIONS);
                readTransition(in);
            } else if (in.sees("always")) {
                in.beginStatement(invariants.count < MAX_INVARIANTS);
                readInvariant(in, NONE);
            } else if (in.sees("inside")) {
                in.beginStatement(invariants.count < MAX_INVARIANTS);
                readInvariant(in, in.readName(states));
            } else {
                in.fail(SYNTAX);
            }
            in.endStatement();
        }

        private void readVariable(Input in) {
            int variable = variables.count;
            in.readNewName(variables);
            int value = in.readValue();
            if (variable < MAX_VARIABLES) {
                initial.values[variable] = value;
            }
        }

        private void readTransition(Input in) {
            int transition = transitionCount;
            if (transition >= MAX_TRANSITIONS) {
                return;
            }
            source[transition] = in.readName(states);
            event[transition] = in.readName(events);
            in.expect("goto");
            target[transition] = in.readName(states);
            guardOperator[transition] = NONE;
            if (in.takes("when")) {
                guardVariable[transition] = in.readName(variables);
                guardOperator[transition] = in.readOperator();
                guardConstant[transition] = in.readValue();
            }
            action[transition] = NONE;
            if (in.takes("do")) {
                actionVariable[transition] = in.readName(variables);
                action[transition] = in.readAction();
                actionConstant[transition] = in.readValue();
            }
            transitionCount++;
        }

        private void readInvariant(Input in, int state) {
            int variable = in.readName(variables);
            int operator = in.readOperator();
            int constant = in.readValue();
            invariants.add(state, variable, operator, constant);
        }
    }

    /** The statements of a script: all are read before the first is executed. */
    private static final class Script {
        int count;
        final int[] kind = new int[MAX_STATEMENTS];
        final int[] index = new int[MAX_STATEMENTS];
        final int[] value = new int[MAX_STATEMENTS];

        void read(Input in, Rules rules) {
            count = 0;
            in.begin();
            // The statement behind the last that has room fails.
            for (int i = 0; i <= MAX_STATEMENTS && in.goesOn(); i++) {
                readStatement(in, rules);
            }
        }

        private void readStatement(Input in, Rules rules) {
            boolean hasRoom = count < MAX_STATEMENTS;
            if (in.sees("fire")) {
                in.beginStatement(hasRoom);
                add(DO_FIRE, in.readName(rules.events), 0);
            } else if (in.sees("set")) {
                in.beginStatement(hasRoom);
                int variable = in.readName(rules.variables);
                add(DO_SET, variable, in.readValue());
            } else if (in.sees("reset")) {
                in.beginStatement(hasRoom);
                add(DO_RESET, NONE, 0);
            } else if (in.sees("clear")) {
                in.beginStatement(hasRoom);
                add(DO_CLEAR, NONE, 0);
            } else {
                in.fail(SYNTAX);
            }
            in.endStatement();
        }

        private void add(int ofKind, int ofIndex, int toValue) {
            if (count < MAX_STATEMENTS) {
                kind[count] = ofKind;
                index[count] = ofIndex;
                value[count] = toValue;
                count++;
            }
        }
    }

    /** The counts of section 6 of the document and the trace. */
    private static final class Coverage {
        final int[] taken = new int[MAX_TRANSITIONS];
        final int[] visits = new int[MAX_STATES];
        final int[] rejectedBy = new int[VERDICTS];
        int accepted;
        int rejected;
        // The transitions of the accepted events, the latest one first; a transition tells its event.
        final int[] trace = new int[MAX_TRACE];
        int traceLength;

        void begin(int state) {
            Arrays.fill(taken, 0);
            Arrays.fill(visits, 0);
            Arrays.fill(rejectedBy, 0);
            accepted = 0;
            rejected = 0;
            traceLength = 0;
            visits[state] = 1;
        }

        void accept(int transition, int target) {
            accepted++;
            taken[transition]++;
            visits[target]++;
            for (int i = MAX_TRACE - 1; i > 0; i--) {
                trace[i] = trace[i - 1];
            }
            trace[0] = transition;
            if (traceLength < MAX_TRACE) {
                traceLength++;
            }
        }

        void reject(int verdict) {
            rejected++;
            rejectedBy[verdict]++;
        }

        int traced(int back) {
            return back < 0 || back >= traceLength ? NONE : trace[back];
        }

        int visitedStates(int states) {
            int visited = 0;
            for (int state = 0; state < states; state++) {
                if (visits[state] > 0) {
                    visited++;
                }
            }
            return visited;
        }

        int takenTransitions(int transitions) {
            int covered = 0;
            for (int transition = 0; transition < transitions; transition++) {
                if (taken[transition] > 0) {
                    covered++;
                }
            }
            return covered;
        }

        /** One visit is counted at the start, none at a reset: so there is always one more than accepted events. */
        boolean addsUp() {
            return sum(taken) == accepted && sum(rejectedBy) == rejected && sum(visits) == accepted + 1;
        }

        private static int sum(int[] counts) {
            int sum = 0;
            for (int count : counts) {
                sum += count;
            }
            return sum;
        }

        void become(Coverage other) {
            System.arraycopy(other.taken, 0, taken, 0, MAX_TRANSITIONS);
            System.arraycopy(other.visits, 0, visits, 0, MAX_STATES);
            System.arraycopy(other.rejectedBy, 0, rejectedBy, 0, VERDICTS);
            System.arraycopy(other.trace, 0, trace, 0, MAX_TRACE);
            accepted = other.accepted;
            rejected = other.rejected;
            traceLength = other.traceLength;
        }
    }

    /** All that a change may change, and so what is kept for undo and for the saved state. */
    private static final class Standing {
        final Configuration at = new Configuration();
        final Invariants invariants = new Invariants();
        final Coverage coverage = new Coverage();

        void begin(Rules rules) {
            at.become(rules.initial);
            invariants.become(rules.invariants);
            coverage.begin(at.state);
        }

        void become(Standing other) {
            at.become(other.at);
            invariants.become(other.invariants);
            coverage.become(other.coverage);
        }
    }

    /** A ring of what stood before the latest changes: the oldest gives way to the newest. */
    private static final class History {
        final Standing[] past = new Standing[MAX_UNDO];
        int newest;
        int count;

        History() {
            for (int i = 0; i < MAX_UNDO; i++) {
                past[i] = new Standing();
            }
        }

        void keep(Standing now) {
            newest = (newest + 1) % MAX_UNDO;
            past[newest].become(now);
            if (count < MAX_UNDO) {
                count++;
            }
        }

        void takeBack(Standing now) {
            if (count == 0) {
                return;
            }
            now.become(past[newest]);
            newest = (newest + MAX_UNDO - 1) % MAX_UNDO;
            count--;
        }
    }

    /** What an event would do in a configuration. */
    private static final class Step {
        int verdict;
        int transition;
        int broken;
        // The next configuration, if the verdict is ACCEPTED or INVARIANT_BROKEN.
        final Configuration next = new Configuration();

        void attempt(Rules rules, Invariants invariants, Configuration from, int event) {
            broken = NONE;
            choose(rules, from, event);
            if (transition == NONE) {
                return;
            }
            next.become(from);
            next.state = rules.target[transition];
            if (!act(rules)) {
                verdict = OUT_OF_BOUNDS;
                return;
            }
            broken = invariants.firstBroken(next);
            verdict = broken == NONE ? ACCEPTED : INVARIANT_BROKEN;
        }

        private void choose(Rules rules, Configuration from, int event) {
            transition = NONE;
            verdict = NO_TRANSITION;
            for (int t = 0; t < rules.transitionCount; t++) {
                if (rules.source[t] == from.state && rules.event[t] == event) {
                    verdict = GUARD_FAILED;
                    if (rules.allows(t, from)) {
                        transition = t;
                        return;
                    }
                }
            }
        }

        private boolean act(Rules rules) {
            int action = rules.action[transition];
            if (action == NONE) {
                return true;
            }
            int variable = rules.actionVariable[transition];
            int constant = rules.actionConstant[transition];
            int former = next.values[variable];
            int value = action == ADD ? former + constant : action == SUB ? former - constant : constant;
            next.values[variable] = value;
            return value >= 0 && value <= MAX_VALUE;
        }
    }

    /** Finds the reachable configurations, and what the face tells of them. */
    private static final class Search {
        // False as soon as something changes; then the answers below are those of an earlier configuration.
        boolean isCurrent;
        int count;
        int deadlocks;
        int deadlockSteps;
        final int[] stateSteps = new int[MAX_STATES];
        final int[] stateFirst = new int[MAX_STATES];
        final boolean[] takeable = new boolean[MAX_TRANSITIONS];
        // The configurations that were found, by their codes; then by code: the steps to it, NONE if not
        // found, and the first event on the way.
        private final int[] found = new int[CONFIGURATIONS];
        private final int[] steps = new int[CONFIGURATIONS];
        private final int[] first = new int[CONFIGURATIONS];
        private final Configuration here = new Configuration();
        private final Step step = new Step();

        /**
         * What is found earlier has fewer steps, and with as many steps the lower first event: so the first
         * configuration that is found with a state tells the answers for the state.
         */
        void runInBreadth(Rules rules, Invariants invariants, Configuration start) {
            forget();
            find(start.toCode(), 0, NONE);
            for (int i = 0; i < count && i < CONFIGURATIONS; i++) {
                expand(rules, invariants, found[i]);
            }
        }

        private void forget() {
            count = 0;
            deadlocks = 0;
            deadlockSteps = NONE;
            Arrays.fill(stateSteps, NONE);
            Arrays.fill(stateFirst, NONE);
            for (int i = 0; i < MAX_TRANSITIONS; i++) {
                takeable[i] = false;
            }
            Arrays.fill(steps, NONE);
        }

        private void find(int code, int atSteps, int byEvent) {
            if (code < 0 || code >= CONFIGURATIONS || count >= CONFIGURATIONS || steps[code] != NONE) {
                return;
            }
            found[count] = code;
            count++;
            steps[code] = atSteps;
            first[code] = byEvent;
            int state = code / 1000;
            if (stateSteps[state] == NONE) {
                stateSteps[state] = atSteps;
                stateFirst[state] = byEvent;
            }
        }

        private void expand(Rules rules, Invariants invariants, int code) {
            here.fromCode(code);
            boolean isDead = true;
            for (int event = 0; event < rules.events.count; event++) {
                step.attempt(rules, invariants, here, event);
                if (step.verdict == ACCEPTED) {
                    isDead = false;
                    takeable[step.transition] = true;
                    find(step.next.toCode(), steps[code] + 1, first[code] == NONE ? event : first[code]);
                }
            }
            if (isDead) {
                deadlocks++;
                if (deadlockSteps == NONE) {
                    deadlockSteps = steps[code];
                }
            }
        }

        /** Uses the rows of the search in breadth again, but leaves its answers. */
        int countInDepth(Rules rules, Invariants invariants, Configuration start) {
            Arrays.fill(steps, NONE);
            int open = 1;
            int seen = 1;
            found[0] = start.toCode();
            steps[found[0]] = 0;
            for (int i = 0; i < CONFIGURATIONS && open > 0; i++) {
                open--;
                here.fromCode(found[open]);
                for (int event = 0; event < rules.events.count; event++) {
                    step.attempt(rules, invariants, here, event);
                    int code = step.verdict == ACCEPTED ? step.next.toCode() : NONE;
                    if (code != NONE && steps[code] == NONE && open < CONFIGURATIONS) {
                        steps[code] = 0;
                        found[open] = code;
                        open++;
                        seen++;
                    }
                }
            }
            return seen;
        }
    }
}
