import java.util.ArrayDeque;
import java.util.ArrayList;
import java.util.Arrays;
import java.util.HashMap;
import java.util.LinkedHashSet;
import java.util.List;
import java.util.Map;
import java.util.NoSuchElementException;
import java.util.Set;

/**
 * The document once more, with the Java library and without care for speed: random runs are measured by it.
 * All that a change may change stands in a State that is never altered, but replaced.
 */
final class PlainMachine {
    private static final List<String> OPERATORS = List.of("below", "atmost", "equals", "differs", "atleast", "above");
    private static final int NONE = -1;

    record Config(int state, List<Integer> values) {
    }

    record Comparison(int variable, int operator, int constant) {
        boolean holds(Config c) {
            int difference = Integer.compare(c.values.get(variable), constant);
            return List.of(difference < 0, difference <= 0, difference == 0, difference != 0, difference >= 0,
                difference > 0).get(operator);
        }
    }

    record Invariant(int state, Comparison comparison) {
        boolean isBrokenBy(Config c) {
            return (state == NONE || state == c.state) && !comparison.holds(c);
        }
    }

    record Action(int variable, String kind, int constant) {
        int of(int value) {
            return kind.equals("add") ? value + constant : kind.equals("sub") ? value - constant : constant;
        }
    }

    record Transition(int source, int event, int target, Comparison guard, Action action) {
    }

    record State(Config config, List<Invariant> invariants, List<Integer> fired, List<Integer> visited,
        List<Integer> verdicts, List<Integer> trace) {
    }

    record Outcome(int verdict, int transition, int broken, Config next) {
    }

    static final class TextError extends RuntimeException {
        private static final long serialVersionUID = 1;
        final int code;
        final int offset;

        TextError(int code, int offset) {
            this.code = code;
            this.offset = offset;
        }
    }

    private List<String> states;
    private List<String> events;
    private List<String> variables;
    private List<Integer> initials;
    private List<Transition> transitions;
    private State now;
    private State saved;
    private final ArrayList<State> past = new ArrayList<>();
    private String input = Bench.FIRST_SETUP;
    private String output = "";
    private int errorCode;
    private int errorOffset = NONE;

    PlainMachine() {
        loadMachine();
    }

    // ---- reading

    private final class Reader {
        final String text = input;
        int at = 0;

        /** The token that comes next, or "" at the end of the text; at is its place. */
        String peek() {
            while (at < text.length() && " \n".indexOf(text.charAt(at)) >= 0) {
                at++;
            }
            String rest = text.substring(at);
            String word = rest.replaceFirst("(?s)[^a-z].*", "");
            String number = rest.replaceFirst("(?s)[^0-9].*", "");
            if (word.length() > 8 || number.length() > 3) {
                throw new TextError(1, at);
            }
            if (!word.isEmpty()) {
                return word;
            }
            if (!number.isEmpty()) {
                return number;
            }
            if (rest.isEmpty()) {
                return "";
            }
            if (rest.charAt(0) != ';') {
                throw new TextError(1, at);
            }
            return ";";
        }

        void take() {
            at += peek().length();
        }

        void literal(String... allowed) {
            if (!Arrays.asList(allowed).contains(peek())) {
                throw new TextError(1, at);
            }
            take();
        }

        int oneOf(List<String> allowed) {
            int index = allowed.indexOf(peek());
            if (index < 0) {
                throw new TextError(1, at);
            }
            take();
            return index;
        }

        String name() {
            if (!peek().matches("[a-z]{1,6}")) {
                throw new TextError(1, at);
            }
            return peek();
        }

        void declare(List<String> names) {
            if (names.contains(name())) {
                throw new TextError(3, at);
            }
            names.add(name());
            take();
        }

        int known(List<String> names) {
            int index = names.indexOf(name());
            if (index < 0) {
                throw new TextError(4, at);
            }
            take();
            return index;
        }

        int digit() {
            if (!peek().matches("[0-9]+")) {
                throw new TextError(1, at);
            }
            int value = Integer.parseInt(peek());
            if (value > 9) {
                throw new TextError(2, at);
            }
            take();
            return value;
        }

        void first(int count, int limit) {
            if (count >= limit) {
                throw new TextError(5, at);
            }
            take();
        }
    }

    private Comparison comparison(Reader in, List<String> names) {
        int variable = in.known(names);
        int operator = in.oneOf(OPERATORS);
        return new Comparison(variable, operator, in.digit());
    }

    int loadMachine() {
        Reader in = new Reader();
        input = "";
        List<String> newStates = new ArrayList<>();
        List<String> newEvents = new ArrayList<>();
        List<String> newVariables = new ArrayList<>();
        List<Integer> newInitials = new ArrayList<>();
        List<Transition> newTransitions = new ArrayList<>();
        List<Invariant> newInvariants = new ArrayList<>();
        try {
            while (!in.peek().isEmpty()) {
                switch (in.peek()) {
                    case "state" -> {
                        in.first(newStates.size(), 10);
                        in.declare(newStates);
                    }
                    case "event" -> {
                        in.first(newEvents.size(), 8);
                        in.declare(newEvents);
                    }
                    case "var" -> {
                        in.first(newVariables.size(), 3);
                        in.declare(newVariables);
                        newInitials.add(in.digit());
                    }
                    case "on" -> {
                        in.first(newTransitions.size(), 24);
                        int source = in.known(newStates);
                        int event = in.known(newEvents);
                        in.literal("goto");
                        int target = in.known(newStates);
                        Comparison guard = null;
                        Action action = null;
                        if (in.peek().equals("when")) {
                            in.take();
                            guard = comparison(in, newVariables);
                        }
                        if (in.peek().equals("do")) {
                            in.take();
                            int variable = in.known(newVariables);
                            String kind = in.peek();
                            in.literal("add", "sub", "set");
                            action = new Action(variable, kind, in.digit());
                        }
                        newTransitions.add(new Transition(source, event, target, guard, action));
                    }
                    case "always" -> {
                        in.first(newInvariants.size(), 12);
                        newInvariants.add(new Invariant(NONE, comparison(in, newVariables)));
                    }
                    case "inside" -> {
                        in.first(newInvariants.size(), 12);
                        int state = in.known(newStates);
                        newInvariants.add(new Invariant(state, comparison(in, newVariables)));
                    }
                    default -> throw new TextError(1, in.at);
                }
                in.literal(";");
            }
            if (newStates.isEmpty() || newEvents.isEmpty() || newVariables.isEmpty()) {
                throw new TextError(6, in.text.length());
            }
            for (Invariant i : newInvariants) {
                if (i.isBrokenBy(new Config(0, newInitials))) {
                    throw new TextError(7, in.text.length());
                }
            }
        } catch (TextError e) {
            errorCode = e.code;
            errorOffset = e.offset;
            return NONE;
        }
        errorCode = 0;
        errorOffset = NONE;
        states = newStates;
        events = newEvents;
        variables = newVariables;
        initials = newInitials;
        transitions = newTransitions;
        now = new State(initialConfig(), List.copyOf(newInvariants), List.of(), List.of(0), List.of(), List.of());
        past.clear();
        saved = null;
        return states.size();
    }

    private Config initialConfig() {
        return new Config(0, List.copyOf(initials));
    }

    int runScript() {
        Reader in = new Reader();
        input = "";
        List<int[]> statements = new ArrayList<>();
        try {
            while (!in.peek().isEmpty()) {
                String word = in.peek();
                if (!List.of("fire", "set", "reset", "clear").contains(word)) {
                    throw new TextError(1, in.at);
                }
                in.first(statements.size(), 30);
                switch (word) {
                    case "fire" -> statements.add(new int[] {0, in.known(events)});
                    case "set" -> statements.add(new int[] {1, in.known(variables), in.digit()});
                    case "reset" -> statements.add(new int[] {2});
                    default -> statements.add(new int[] {3});
                }
                in.literal(";");
            }
        } catch (TextError e) {
            errorCode = e.code;
            errorOffset = e.offset;
            return NONE;
        }
        errorCode = 0;
        errorOffset = NONE;
        List<State> before = List.copyOf(past);
        State start = now;
        int executed = 0;
        try {
            for (int[] s : statements) {
                switch (s[0]) {
                    case 0 -> fire(s[1]);
                    case 1 -> setValue(s[1], s[2]);
                    case 2 -> reset();
                    default -> clearCoverage();
                }
                executed++;
            }
        } catch (IllegalStateException e) {
            // The statement has no effect; the ones behind it are not executed.
        }
        State end = now;
        past.clear();
        past.addAll(before);
        now = start;
        change(end);
        return executed;
    }

    int appendInput(int a, int b, int c, int d, int e) {
        if (input.length() > 680) {
            return NONE;
        }
        for (int word : new int[] {a, b, c, d, e}) {
            for (int shift = 24; shift >= 0; shift -= 8) {
                input += (char) (word >> shift & 0xFF);
            }
        }
        return input.length();
    }

    boolean truncateInput(int length) {
        if (length < 0 || length > input.length()) {
            return false;
        }
        input = input.substring(0, length);
        return true;
    }

    int errorCode() {
        return errorCode;
    }

    int errorOffset() {
        return errorOffset;
    }

    // ---- the machine

    private static void index(int index, List<?> list) {
        if (index < 0 || index >= list.size()) {
            throw new IndexOutOfBoundsException();
        }
    }

    int stateCount() {
        return states.size();
    }

    int eventCount() {
        return events.size();
    }

    int variableCount() {
        return variables.size();
    }

    int transitionCount() {
        return transitions.size();
    }

    int invariantCount() {
        return now.invariants.size();
    }

    private static int letter(List<String> names, int name, int at) {
        index(name, names);
        return at >= 0 && at < names.get(name).length() ? names.get(name).charAt(at) : NONE;
    }

    int stateNameByte(int state, int at) {
        return letter(states, state, at);
    }

    int eventNameByte(int event, int at) {
        return letter(events, event, at);
    }

    int variableNameByte(int variable, int at) {
        return letter(variables, variable, at);
    }

    int currentState() {
        return now.config.state;
    }

    int valueOf(int variable) {
        index(variable, variables);
        return now.config.values.get(variable);
    }

    int initialValueOf(int variable) {
        index(variable, variables);
        return initials.get(variable);
    }

    int sourceOf(int transition) {
        index(transition, transitions);
        return transitions.get(transition).source;
    }

    int eventOf(int transition) {
        index(transition, transitions);
        return transitions.get(transition).event;
    }

    int targetOf(int transition) {
        index(transition, transitions);
        return transitions.get(transition).target;
    }

    boolean hasGuard(int transition) {
        index(transition, transitions);
        return transitions.get(transition).guard != null;
    }

    boolean guardHolds(int transition) {
        index(transition, transitions);
        return isOpen(transitions.get(transition), now.config);
    }

    private static boolean isOpen(Transition t, Config c) {
        return t.guard == null || t.guard.holds(c);
    }

    int stateOfInvariant(int invariant) {
        index(invariant, now.invariants);
        return now.invariants.get(invariant).state;
    }

    boolean comparisonHolds(int invariant) {
        index(invariant, now.invariants);
        return now.invariants.get(invariant).comparison.holds(now.config);
    }

    // ---- verdicts

    private static Config with(Config c, int state, int variable, int value) {
        List<Integer> values = new ArrayList<>(c.values);
        values.set(variable, value);
        return new Config(state, List.copyOf(values));
    }

    private int broken(Config c) {
        for (int i = 0; i < now.invariants.size(); i++) {
            if (now.invariants.get(i).isBrokenBy(c)) {
                return i;
            }
        }
        return NONE;
    }

    private Outcome outcome(Config c, int event) {
        List<Transition> fitting = transitions.stream().filter(t -> t.source == c.state && t.event == event).toList();
        if (fitting.isEmpty()) {
            return new Outcome(1, NONE, NONE, null);
        }
        for (int i = 0; i < transitions.size(); i++) {
            Transition t = transitions.get(i);
            if (t.source == c.state && t.event == event && isOpen(t, c)) {
                Config next = new Config(t.target, c.values);
                if (t.action != null) {
                    next = with(c, t.target, t.action.variable, t.action.of(c.values.get(t.action.variable)));
                }
                if (next.values.stream().anyMatch(v -> v < 0 || v > 9)) {
                    return new Outcome(3, i, NONE, null);
                }
                int broken = broken(next);
                return new Outcome(broken == NONE ? 0 : 4, i, broken, next);
            }
        }
        return new Outcome(2, NONE, NONE, null);
    }

    int verdictOf(int event) {
        index(event, events);
        return outcome(now.config, event).verdict;
    }

    int chosenTransition(int event) {
        index(event, events);
        return outcome(now.config, event).transition;
    }

    int brokenInvariant(int event) {
        index(event, events);
        return outcome(now.config, event).broken;
    }

    private boolean isDead(Config c) {
        for (int event = 0; event < events.size(); event++) {
            if (outcome(c, event).verdict == 0) {
                return false;
            }
        }
        return true;
    }

    boolean isDeadlocked() {
        return isDead(now.config);
    }

    // ---- coverage

    private static int count(List<Integer> list, int what) {
        return (int) list.stream().filter(x -> x == what).count();
    }

    int timesTaken(int transition) {
        index(transition, transitions);
        return count(now.fired, transition);
    }

    int visitsOf(int state) {
        index(state, states);
        return count(now.visited, state);
    }

    int acceptedCount() {
        return count(now.verdicts, 0);
    }

    int rejectedCount() {
        return now.verdicts.size() - count(now.verdicts, 0);
    }

    int rejectedWith(int verdict) {
        if (verdict < 1 || verdict > 4) {
            throw new IllegalArgumentException();
        }
        return count(now.verdicts, verdict);
    }

    float stateCoverage() {
        return (float) now.visited.stream().distinct().count() / (float) states.size();
    }

    float transitionCoverage() {
        return transitions.isEmpty() ? 1
            : (float) now.fired.stream().distinct().count() / (float) transitions.size();
    }

    int firstUncovered() {
        for (int i = 0; i < transitions.size(); i++) {
            if (!now.fired.contains(i)) {
                return i;
            }
        }
        return NONE;
    }

    int mostVisitedState() {
        int most = 0;
        for (int i = 0; i < states.size(); i++) {
            most = visitsOf(i) > visitsOf(most) ? i : most;
        }
        return most;
    }

    int traceLength() {
        return Math.min(20, now.trace.size());
    }

    int traceTransition(int back) {
        return back < 0 || back >= traceLength() ? NONE : now.trace.get(now.trace.size() - 1 - back);
    }

    int traceEvent(int back) {
        return traceTransition(back) == NONE ? NONE : transitions.get(traceTransition(back)).event;
    }

    // ---- reachability

    private Map<Config, Integer> distances(Config from) {
        Map<Config, Integer> distance = new HashMap<>();
        ArrayDeque<Config> open = new ArrayDeque<>();
        distance.put(from, 0);
        open.add(from);
        while (!open.isEmpty()) {
            Config c = open.remove();
            for (int event = 0; event < events.size(); event++) {
                Outcome o = outcome(c, event);
                if (o.verdict == 0 && !distance.containsKey(o.next)) {
                    distance.put(o.next, distance.get(c) + 1);
                    open.add(o.next);
                }
            }
        }
        return distance;
    }

    private int distance(Config from, int state) {
        return distances(from).entrySet().stream().filter(e -> e.getKey().state == state).mapToInt(Map.Entry::getValue)
            .min().orElse(NONE);
    }

    int reachableCount() {
        return distances(now.config).size();
    }

    boolean isReachable(int state) {
        return stepsTo(state) != NONE;
    }

    boolean canBeTaken(int transition) {
        index(transition, transitions);
        for (Config c : distances(now.config).keySet()) {
            Outcome o = outcome(c, transitions.get(transition).event);
            if (o.verdict == 0 && o.transition == transition) {
                return true;
            }
        }
        return false;
    }

    int stepsTo(int state) {
        index(state, states);
        return distance(now.config, state);
    }

    /** By its words: the lowest event behind which the rest of the way is as short as it can be. */
    int firstEventTo(int state) {
        int steps = stepsTo(state);
        for (int event = 0; event < events.size() && steps > 0; event++) {
            Outcome o = outcome(now.config, event);
            if (o.verdict == 0 && distance(o.next, state) == steps - 1) {
                return event;
            }
        }
        return NONE;
    }

    int deadlockCount() {
        return (int) distances(now.config).keySet().stream().filter(this::isDead).count();
    }

    int stepsToDeadlock() {
        return distances(now.config).entrySet().stream().filter(e -> isDead(e.getKey())).mapToInt(Map.Entry::getValue)
            .min().orElse(NONE);
    }

    private void visitInDepth(Config from, Set<Config> seen) {
        ArrayDeque<Config> open = new ArrayDeque<>();
        open.push(from);
        while (!open.isEmpty()) {
            Config c = open.pop();
            if (seen.add(c)) {
                for (int event = 0; event < events.size(); event++) {
                    Outcome o = outcome(c, event);
                    if (o.verdict == 0) {
                        open.push(o.next);
                    }
                }
            }
        }
    }

    boolean isConsistent() {
        Set<Config> seen = new LinkedHashSet<>();
        visitInDepth(now.config, seen);
        return broken(now.config) == NONE && now.fired.size() == acceptedCount()
            && now.visited.size() == acceptedCount() + 1 && seen.size() == reachableCount();
    }

    double meanValue() {
        return (double) now.config.values.stream().mapToInt(v -> v).sum() / (double) variables.size();
    }

    // ---- changes

    private static List<Integer> joined(List<Integer> list, int more) {
        List<Integer> all = new ArrayList<>(list);
        all.add(more);
        return List.copyOf(all);
    }

    private void change(State next) {
        past.add(now);
        if (past.size() > 8) {
            past.remove(0);
        }
        now = next;
    }

    int fire(int event) {
        index(event, events);
        Outcome o = outcome(now.config, event);
        List<Integer> verdicts = joined(now.verdicts, o.verdict);
        if (o.verdict == 0) {
            change(new State(o.next, now.invariants, joined(now.fired, o.transition), joined(now.visited, o.next.state),
                verdicts, joined(now.trace, o.transition)));
        } else {
            change(new State(now.config, now.invariants, now.fired, now.visited, verdicts, now.trace));
        }
        return o.verdict;
    }

    int setValue(int variable, int value) {
        index(variable, variables);
        if (value < 0 || value > 9) {
            throw new IllegalArgumentException();
        }
        Config next = with(now.config, now.config.state, variable, value);
        if (broken(next) != NONE) {
            throw new IllegalStateException();
        }
        int former = now.config.values.get(variable);
        change(new State(next, now.invariants, now.fired, now.visited, now.verdicts, now.trace));
        return former;
    }

    int reset() {
        int former = now.config.state;
        change(new State(initialConfig(), now.invariants, now.fired, now.visited, now.verdicts, List.of()));
        return former;
    }

    int clearCoverage() {
        int former = acceptedCount();
        change(new State(now.config, now.invariants, List.of(), List.of(now.config.state), List.of(), List.of()));
        return former;
    }

    int addAlways(int variable, int operator, int constant) {
        index(variable, variables);
        if (operator < 0 || operator > 5 || constant < 0 || constant > 9) {
            throw new IllegalArgumentException();
        }
        Invariant added = new Invariant(NONE, new Comparison(variable, operator, constant));
        if (now.invariants.size() == 12 || added.isBrokenBy(now.config) || added.isBrokenBy(initialConfig())) {
            throw new IllegalStateException();
        }
        List<Invariant> all = new ArrayList<>(now.invariants);
        all.add(added);
        change(new State(now.config, List.copyOf(all), now.fired, now.visited, now.verdicts, now.trace));
        return all.size() - 1;
    }

    int undo() {
        if (past.isEmpty()) {
            throw new NoSuchElementException();
        }
        now = past.remove(past.size() - 1);
        return past.size();
    }

    int writeConfiguration() {
        output = states.get(now.config.state);
        for (int i = 0; i < variables.size(); i++) {
            output += " " + variables.get(i) + "=" + now.config.values.get(i);
        }
        return output.length();
    }

    int outputByte(int at) {
        return at >= 0 && at < output.length() ? output.charAt(at) : NONE;
    }

    int saveState() {
        saved = now;
        return now.config.state;
    }

    int restoreState() {
        if (saved == null) {
            throw new NoSuchElementException();
        }
        now = saved;
        past.clear();
        return now.config.state;
    }
}
