/** Sections 1 to 7 of the document's terms. */
final class TermSentences extends Said {
    private static final String[] OPERATORS = {"below", "atmost", "equals", "differs", "atleast", "above"};

    static void test() {
        acceptedEventsKeepInvariants();
        constants();
        limits();
        indexes();
        names();
        values();
        initialState();
        configurations();
        transitions();
        actions();
        guards();
        comparisons();
        invariants();
        noTransition();
        chosen();
        nextConfiguration();
        outOfBounds();
        invariantBroken();
        accepted();
        counts();
        visits();
        trace();
        reachable();
        deadlock();
    }

    private static void acceptedEventsKeepInvariants() {
        quote("## Terms", "Every accepted event keeps all invariants.");
        ContractMachine x = new ContractMachine();
        x.addAlways(1, ContractMachine.BELOW, 9);
        int accepted = 0;
        for (int i = 0; i < 40; i++) {
            boolean isAccepted = x.fire(i * i % 7 % 3) == ACCEPTED;
            accepted += isAccepted ? 1 : 0;
            boolean keeps = true;
            for (int k = 0; k < 3; k++) {
                boolean binds = x.stateOfInvariant(k) == NONE || x.stateOfInvariant(k) == x.currentState();
                keeps = keeps && (x.comparisonHolds(k) || !binds);
            }
            due("the invariants after fire, the " + i + "th", keeps, true);
        }
        due("accepted events", accepted, x.acceptedCount());
    }

    private static void constants() {
        String[] said = {"Result for \"there is none\".", "Error code: no error.",
            "Error code: a token is not allowed at its place.", "Error code: a number is out of range.",
            "Error code: a name is used already.", "Error code: a name is not known.",
            "Error code: there are too many of something.", "Error code: there is no state, no event or no variable.",
            "Error code: the initial configuration breaks an invariant.", "Verdict: the event is accepted.",
            "Verdict: no transition has the state and the event.", "Verdict: no guard holds.",
            "Verdict: a value would be out of bounds.", "Verdict: an invariant would be broken.", "Operator: less than.",
            "Operator: less than or equal.", "Operator: equal.", "Operator: not equal.", "Operator: greater than or equal.",
            "Operator: greater than."};
        String[] names = {"NONE", "NO_ERROR", "SYNTAX", "OUT_OF_RANGE", "DUPLICATE_NAME", "UNKNOWN_NAME", "TOO_MANY",
            "INCOMPLETE", "BROKEN_AT_START", "ACCEPTED", "NO_TRANSITION", "GUARD_FAILED", "OUT_OF_BOUNDS",
            "INVARIANT_BROKEN", "BELOW", "ATMOST", "EQUALS", "DIFFERS", "ATLEAST", "ABOVE"};
        int[] got = {ContractMachine.NONE, ContractMachine.NO_ERROR, SYNTAX, OUT_OF_RANGE, DUPLICATE_NAME, UNKNOWN_NAME,
            TOO_MANY, INCOMPLETE, BROKEN_AT_START, ACCEPTED, NO_TRANSITION, GUARD_FAILED, OUT_OF_BOUNDS, INVARIANT_BROKEN,
            ContractMachine.BELOW, ContractMachine.ATMOST, ContractMachine.EQUALS, ContractMachine.DIFFERS,
            ContractMachine.ATLEAST, ContractMachine.ABOVE};
        int[] want = {-1, 0, 1, 2, 3, 4, 5, 6, 7, 0, 1, 2, 3, 4, 0, 1, 2, 3, 4, 5};
        for (int i = 0; i < names.length; i++) {
            quote("The constants:", names[i] + " = " + want[i] + ": " + said[i]);
            due(names[i], got[i], want[i]);
        }
    }

    // ---- section 1

    private static void limits() {
        section(1, "A machine has 1 to 10 states, 1 to 8 events, 1 to 3 variables, at most 24 transitions and at most 12 invariants.");
        String states = "event e;var v 1;";
        setupFails(states, INCOMPLETE, states.length());
        setupLoads(states + "state a;");
        setupLoads(states + times(10, "state #;"));
        setupFails(states + times(11, "state #;"), TOO_MANY, states.length() + 80);
        String events = "state a;var v 1;";
        setupFails(events, INCOMPLETE, events.length());
        setupLoads(events + "event e;");
        setupLoads(events + times(8, "event #;"));
        setupFails(events + times(9, "event #;"), TOO_MANY, events.length() + 64);
        String variables = "state a;event e;";
        setupFails(variables, INCOMPLETE, variables.length());
        setupLoads(variables + "var v 0;");
        setupLoads(variables + times(3, "var # 0;"));
        setupFails(variables + times(4, "var # 0;"), TOO_MANY, variables.length() + 24);
        setupLoads(WHOLE);
        setupLoads(WHOLE + times(24, "on a e goto b;"));
        setupFails(WHOLE + times(25, "on a e goto b;"), TOO_MANY, WHOLE.length() + 24 * 14);
        setupLoads(WHOLE + times(12, "always v below 9;"));
        setupLoads(WHOLE + times(12, "inside a v below 9;"));
        setupFails(WHOLE + times(13, "always v below 9;"), TOO_MANY, WHOLE.length() + 12 * 17);
        setupFails(WHOLE + times(13, "inside a v below 9;"), TOO_MANY, WHOLE.length() + 12 * 19);
        setupFails(WHOLE + times(12, "always v below 9;") + "inside a v below 9;", TOO_MANY, WHOLE.length() + 12 * 17);
        setupFails(WHOLE + times(12, "inside a v below 9;") + "always v below 9;", TOO_MANY, WHOLE.length() + 12 * 19);
    }

    private static void indexes() {
        section(1, "They are indexed from 0, each kind for itself, in the order of their declaration.");
        ContractMachine x = Bench.machine("event z;state c;var q 5;state a;event y;var p 4;on c y goto a;"
            + "inside c q below 6;state b;on b z goto b;always p below 9;inside b p below 9;on a y goto c;");
        due("the states", "" + (char) x.stateNameByte(0, 0) + (char) x.stateNameByte(1, 0) + (char) x.stateNameByte(2, 0), "cab");
        due("the events", "" + (char) x.eventNameByte(0, 0) + (char) x.eventNameByte(1, 0), "zy");
        due("the variables", "" + (char) x.variableNameByte(0, 0) + (char) x.variableNameByte(1, 0), "qp");
        due("the initial values", "" + x.initialValueOf(0) + x.initialValueOf(1), "54");
        due("the sources", "" + x.sourceOf(0) + x.sourceOf(1) + x.sourceOf(2), "021");
        due("the events of transitions", "" + x.eventOf(0) + x.eventOf(1) + x.eventOf(2), "101");
        due("the targets", "" + x.targetOf(0) + x.targetOf(1) + x.targetOf(2), "120");
        due("the invariants", "" + x.stateOfInvariant(0) + x.stateOfInvariant(1) + x.stateOfInvariant(2), "0-12");
    }

    private static void names() {
        section(1, "States, events and variables have names of 1 to 6 lowercase letters; names of the same kind are different.");
        setupLoads("state a;event z;var m 1;");
        setupLoads("state abcdef;event uvwxyz;var mmmmmm 1;");
        setupFails("state abcdefg;", SYNTAX, 6);
        setupFails("event abcdefg;", SYNTAX, 6);
        setupFails("var abcdefg 1;", SYNTAX, 4);
        setupFails("state ;", SYNTAX, 6);
        setupFails("event ;", SYNTAX, 6);
        setupFails("var 1;", SYNTAX, 4);
        setupFails("state A;", SYNTAX, 6);
        setupFails("event eE;", SYNTAX, 7);
        setupFails("var v_ 1;", SYNTAX, 5);
        setupFails("state a;state a;", DUPLICATE_NAME, 14);
        setupFails("event abcdef;event abcdef;", DUPLICATE_NAME, 19);
        setupFails("var a 1;var b 2;var c 3;var a 1;", TOO_MANY, 24);
        setupFails("var a 1;var b 2;var b 1;", DUPLICATE_NAME, 20);
        setupLoads("state same;event same;var same 1;");
        setupLoads("state same;state samee;state sam;state sama;event e;var v 1;");
    }

    private static void values() {
        section(1, "A variable has an initial value and a current value, both 0 to 9.");
        setupLoads("state a;event e;var v 0;var w 9;");
        setupFails("state a;event e;var v 10;", OUT_OF_RANGE, 22);
        setupFails("state a;event e;var v -1;", SYNTAX, 22);
        ContractMachine x = Bench.machine("state a;event e;event f;var v 0;var w 9;on a e goto a do v sub 1;on a f goto a do w add 1;");
        due("fire to -1", x.fire(0), OUT_OF_BOUNDS);
        due("fire to 10", x.fire(1), OUT_OF_BOUNDS);
        dueArgument("setValue(0, -1)", () -> x.setValue(0, -1));
        dueArgument("setValue(0, 10)", () -> x.setValue(0, 10));
        due("setValue(0, 9)", x.setValue(0, 9), 0);
        due("setValue(1, 0)", x.setValue(1, 0), 9);
        due("the values", "" + x.valueOf(0) + x.valueOf(1) + x.initialValueOf(0) + x.initialValueOf(1), "9009");
    }

    private static void initialState() {
        section(1, "State 0 is the initial state.");
        ContractMachine x = Bench.machine("state q;state r;event e;var v 1;on r e goto q;on q e goto r;inside r v above 1;");
        due("currentState()", x.currentState(), 0);
        due("fire(0) from q", x.chosenTransition(0), 1);
        x.setValue(0, 2);
        x.fire(0);
        due("currentState() after fire", x.currentState(), 1);
        x.reset();
        due("currentState() after reset", x.currentState(), 0);
    }

    private static void configurations() {
        section(1, "A configuration is a state together with a value for each variable.");
        // The same state with another value in any variable is another configuration.
        ContractMachine x = Bench.machine("state a;event e;event f;event g;var u 8;var v 8;var w 8;"
            + "on a e goto a do u add 1;on a f goto a do v add 1;on a g goto a do w add 1;");
        due("reachableCount()", x.reachableCount(), 8);
        section(1, "The current configuration consists of the current state and the current values.");
        x.fire(1);
        due("the configuration", Bench.configuration(x), "a u=8 v=9 w=8");
        due("reachableCount()", x.reachableCount(), 4);
    }

    // ---- section 2

    private static void transitions() {
        section(2, "A transition has a source state, an event and a target state.");
        ContractMachine x = Bench.machine(WHOLE + "on a e goto b;on b f goto b;");
        due("transition 0", "" + x.sourceOf(0) + x.eventOf(0) + x.targetOf(0), "001");
        due("transition 1, to its own source", "" + x.sourceOf(1) + x.eventOf(1) + x.targetOf(1), "111");
    }

    private static void actions() {
        section(2, "It may have a guard, which compares a variable with a constant, and an action, which changes a variable:"
            + " add adds a constant to it, sub subtracts a constant from it, and set replaces it by a constant.");
        String[] kinds = {"add", "sub", "set"};
        for (int kind = 0; kind < kinds.length; kind++) {
            for (int constant = 0; constant <= 9; constant++) {
                ContractMachine x = Bench.machine("state a;event e;var u 7;var v 5;var w 7;on a e goto a when u equals 7 do v "
                    + kinds[kind] + " " + constant + ";");
                int value = kind == 0 ? 5 + constant : kind == 1 ? 5 - constant : constant;
                boolean fits = value >= 0 && value <= 9;
                String call = kinds[kind] + " " + constant + " at 5";
                due("fire of " + call, x.fire(0), fits ? ACCEPTED : OUT_OF_BOUNDS);
                due("the configuration after " + call, Bench.configuration(x), "a u=7 v=" + (fits ? value : 5) + " w=7");
            }
        }
        ContractMachine y = Bench.machine(WHOLE + "on a e goto b;");
        y.fire(0);
        due("the configuration after no action", Bench.configuration(y), "b v=1 w=2");
        ContractMachine z = Bench.machine(WHOLE + "on a e goto b when v equals 0 do v add 1;");
        due("fire with a guard that does not hold", z.fire(0), GUARD_FAILED);
        due("the configuration after it", Bench.configuration(z), "a v=1 w=2");
    }

    private static void guards() {
        section(2, "A guard without a comparison always holds.");
        ContractMachine x = Bench.machine("state a;event e;var v 0;on a e goto a;on a e goto a do v add 1;");
        for (int value = 0; value <= 9; value++) {
            x.setValue(0, value);
            due("guardHolds(0) at " + value, x.guardHolds(0), true);
            due("guardHolds(1) at " + value, x.guardHolds(1), true);
            due("chosenTransition(0) at " + value, x.chosenTransition(0), 0);
        }
    }

    // ---- sections 3 and 4

    private static boolean holds(int operator, int value, int constant) {
        int sign = Integer.compare(value, constant);
        return new String[] {"-", "-0", "0", "-+", "0+", "+"}[operator].indexOf(sign < 0 ? '-' : sign == 0 ? '0' : '+') >= 0;
    }

    private static void comparisons() {
        section(3, "A comparison has a variable, an operator and a constant of 0 to 9.");
        for (String head : new String[] {"on a e goto b when v atleast ", "inside b v atleast ", "always v differs "}) {
            setupLoads(WHOLE + head + "0;");
            setupLoads(WHOLE + head + "9;");
            setupFails(WHOLE + head + "10;", OUT_OF_RANGE, WHOLE.length() + head.length());
            setupFails(WHOLE + head + "999;", OUT_OF_RANGE, WHOLE.length() + head.length());
        }
        section(3, "The operators are BELOW (less than the constant), ATMOST (less than or equal), EQUALS (equal), "
            + "DIFFERS (not equal), ATLEAST (greater than or equal) and ABOVE (greater than).");
        for (int operator = 0; operator < 6; operator++) {
            for (int constant : new int[] {0, 4, 9}) {
                String comparison = OPERATORS[operator] + " " + constant;
                ContractMachine x = Bench.machine(WHOLE + "on a e goto b when v " + comparison + ";inside b v " + comparison + ";");
                for (int value = 0; value <= 9; value++) {
                    x.setValue(0, value);
                    boolean holds = holds(operator, value, constant);
                    due("guardHolds(0), " + comparison + " at " + value, x.guardHolds(0), holds);
                    due("comparisonHolds(0), " + comparison + " at " + value, x.comparisonHolds(0), holds);
                    int code = operator;
                    ContractMachine y = Bench.machine("state a;event e;var v " + value + ";");
                    due("addAlways, " + comparison + " at " + value, answer(() -> y.addAlways(0, code, constant)),
                        holds ? "0" : IllegalStateException.class.getName());
                }
            }
        }
    }

    private static void invariants() {
        section(4, "An invariant is a comparison that holds always, or one that holds inside a state.");
        ContractMachine x = Bench.machine(WHOLE + "on a e goto b;on b e goto a;on a f goto a do v add 1;on b f goto b do v add 1;"
            + "always w below 3;inside b v below 2;");
        due("stateOfInvariant(0)", x.stateOfInvariant(0), NONE);
        due("stateOfInvariant(1)", x.stateOfInvariant(1), 1);
        section(4, "An invariant inside a state is broken by a configuration if the configuration has this state and the comparison does not hold.");
        due("in another state", x.fire(1), ACCEPTED);
        due("comparisonHolds(1) there", x.comparisonHolds(1), false);
        due("into the state", x.fire(0), INVARIANT_BROKEN);
        due("brokenInvariant(0)", x.brokenInvariant(0), 1);
        x.undo();
        x.undo();
        due("into the state, where the comparison holds", x.fire(0), ACCEPTED);
        due("within the state", x.fire(1), INVARIANT_BROKEN);
        due("out of the state", x.fire(0), ACCEPTED);
        section(4, "An invariant that holds always is broken by every configuration for which the comparison does not hold.");
        dueState("setValue(1, 3) in a", () -> x.setValue(1, 3));
        x.fire(0);
        dueState("setValue(1, 3) in b", () -> x.setValue(1, 3));
        due("setValue(1, 0) in b", x.setValue(1, 0), 2);
    }

    // ---- section 5

    private static void noTransition() {
        section(5, "When an event occurs in a configuration, the verdict is determined as follows. If no transition has the state of the"
            + " configuration as its source state and has this event, the verdict is NO_TRANSITION.");
        ContractMachine none = Bench.machine(WHOLE);
        due("without transitions", none.verdictOf(0), NO_TRANSITION);
        ContractMachine x = Bench.machine(WHOLE + "on b e goto a;on a f goto a;on b f goto a;");
        due("the state with another event, the event with another state", x.verdictOf(0), NO_TRANSITION);
        due("chosenTransition(0)", x.chosenTransition(0), NONE);
        due("fire(0)", x.fire(0), NO_TRANSITION);
    }

    private static void chosen() {
        section(5, "Otherwise, the chosen transition is the one with the lowest index among those transitions whose guard holds;"
            + " if there is none, the verdict is GUARD_FAILED.");
        ContractMachine x = Bench.machine("state a;event e;var v 0;on a e goto a when v equals 3;on a e goto a when v above 4;"
            + "on a e goto a when v above 2;on a e goto a when v above 1;");
        int[] chosen = {NONE, NONE, 3, 0, 2, 1};
        for (int value = 0; value < chosen.length; value++) {
            x.setValue(0, value);
            due("chosenTransition(0) at " + value, x.chosenTransition(0), chosen[value]);
            due("verdictOf(0) at " + value, x.verdictOf(0), chosen[value] == NONE ? GUARD_FAILED : ACCEPTED);
        }
        // A guard that holds on a transition of another state or event is no choice.
        ContractMachine y = Bench.machine(WHOLE + "on b e goto a;on a f goto a;on a e goto b when v equals 0;");
        due("verdictOf(0) with open guards elsewhere", y.verdictOf(0), GUARD_FAILED);
    }

    private static void nextConfiguration() {
        section(5, "The next configuration has the target state of the chosen transition and the values after its action.");
        ContractMachine x = Bench.machine(WHOLE + "on a e goto b when v equals 1 do v set 0;always v differs 3;inside b v equals 0;");
        // The guard looks at the values before the action, the invariant at those after it.
        due("fire(0)", x.fire(0), ACCEPTED);
        due("the next configuration", Bench.configuration(x), "b v=0 w=2");
    }

    private static void outOfBounds() {
        section(5, "If a value would be less than 0 or greater than 9, the verdict is OUT_OF_BOUNDS.");
        ContractMachine x = Bench.machine("state a;state b;event e;event f;var v 0;on a e goto b do v sub 1;on a f goto b do v add 1;"
            + "inside b v below 0;");
        due("from 0 to -1, though an invariant is broken too", x.verdictOf(0), OUT_OF_BOUNDS);
        x.setValue(0, 1);
        due("from 1 to 0", x.verdictOf(0), INVARIANT_BROKEN);
        x.setValue(0, 8);
        due("from 8 to 9", x.verdictOf(1), INVARIANT_BROKEN);
        x.setValue(0, 9);
        due("from 9 to 10, though an invariant is broken too", x.verdictOf(1), OUT_OF_BOUNDS);
        due("brokenInvariant(1)", x.brokenInvariant(1), NONE);
        ContractMachine y = Bench.machine("state a;event e;event f;var v 9;var w 0;on a e goto a do v add 9;on a f goto a do w sub 9;");
        due("from 9 to 18", y.verdictOf(0), OUT_OF_BOUNDS);
        due("from 0 to -9", y.verdictOf(1), OUT_OF_BOUNDS);
        y.setValue(0, 0);
        y.setValue(1, 9);
        due("from 0 to 9", y.verdictOf(0), ACCEPTED);
        due("from 9 to 0", y.verdictOf(1), ACCEPTED);
    }

    private static void invariantBroken() {
        section(5, "If the next configuration breaks an invariant, the verdict is INVARIANT_BROKEN.");
        ContractMachine x = Bench.machine(WHOLE + "on a e goto b;on a f goto a do v add 1;inside b w equals 3;always v below 2;");
        due("inside the target", x.verdictOf(0), INVARIANT_BROKEN);
        due("always", x.verdictOf(1), INVARIANT_BROKEN);
    }

    private static void accepted() {
        section(5, "Otherwise the verdict is ACCEPTED.");
        ContractMachine x = Bench.machine(WHOLE + "on a e goto b;on a f goto b do v sub 2;on a f goto b;on a f goto a;inside a v equals 1;");
        due("verdictOf(0)", x.verdictOf(0), ACCEPTED);
        section(5, "An event that is not accepted is rejected; no other transition is tried then.");
        due("fire(1), which the second and the third could", x.fire(1), OUT_OF_BOUNDS);
        due("chosenTransition(1)", x.chosenTransition(1), 1);
        due("the configuration", Bench.configuration(x), "a v=1 w=2");
        due("rejectedCount()", x.rejectedCount(), 1);
        due("acceptedCount()", x.acceptedCount(), 0);
        ContractMachine y = Bench.machine(WHOLE + "on a e goto b;on a e goto a;inside b v equals 0;");
        due("fire(0), which the second could", y.fire(0), INVARIANT_BROKEN);
        due("currentState()", y.currentState(), 0);
        section(5, "When an accepted event is fired, the next configuration becomes the current one.");
        ContractMachine z = Bench.machine(WHOLE + "on a e goto b do w set 9;on b e goto a do v add 8;");
        z.fire(0);
        due("the configuration", Bench.configuration(z), "b v=1 w=9");
        z.fire(0);
        due("the configuration after another one", Bench.configuration(z), "a v=9 w=9");
    }

    // ---- sections 6 and 7

    private static void counts() {
        section(6, "The machine counts how often each transition was taken, how often each state was visited,"
            + " how many fired events were accepted, and how many were rejected with each verdict.");
        ContractMachine x = Bench.machine("state a;state b;event e;event f;event g;event h;event i;var v 0;"
            + "on a e goto a;on a f goto a when v above 0;on a g goto a do v sub 1;on a h goto b;inside b v equals 1;");
        int[] fired = {0, 4, 3, 2, 1, 0, 3, 2, 1, 3, 2, 3, 0, 0};
        for (int event : fired) {
            x.fire(event);
        }
        due("the counts", standing(x), "state 0 values 0 invariants 1b visits 5 0 taken 4 0 0 0 counts 4 10 1 2 3 4"
            + " trace 0/0 0/0 0/0 0/0");
        x.verdictOf(0);
        x.chosenTransition(2);
        x.isDeadlocked();
        x.reachableCount();
        x.isConsistent();
        due("the accepted events after questions", x.acceptedCount() + x.rejectedCount(), 14);
    }

    private static void visits() {
        section(6, "A visit of a state is counted when an accepted event leads to it, also from the same state;"
            + " the initial state is visited once when a setup is loaded.");
        ContractMachine x = Bench.machine(WHOLE + "on a e goto b;on b e goto b;on b f goto a;inside a v equals 1;");
        due("the visits at first", x.visitsOf(0) + 10 * x.visitsOf(1), 1);
        x.fire(0);
        due("the visits after an event to b", x.visitsOf(0) + 10 * x.visitsOf(1), 11);
        x.fire(0);
        due("the visits after an event from b to b", x.visitsOf(0) + 10 * x.visitsOf(1), 21);
        x.setValue(0, 2);
        x.fire(1);
        due("the visits after a rejected event", x.visitsOf(0) + 10 * x.visitsOf(1), 21);
        Bench.feed(x, WHOLE);
        x.loadMachine();
        due("the visits of the next machine", x.visitsOf(0) + 10 * x.visitsOf(1), 1);
        due("the visits of a new object", new ContractMachine().visitsOf(0), 1);
    }

    private static void trace() {
        section(6, "The trace stores the 20 latest accepted events with their transitions.");
        ContractMachine x = Bench.machine("state a;" + times(5, "event #;") + "var v 0;on a e goto a;on a d goto a;on a c goto a;on a a goto a;");
        int[] events = new int[45];
        int count = 0;
        for (int i = 0; i < events.length; i++) {
            int event = i * i % 7 % 5;
            boolean isAccepted = x.fire(event) == ACCEPTED;
            due("fire(" + event + ") is accepted", isAccepted, event != 1);
            if (isAccepted) {
                events[count++] = event;
            }
            due("traceLength() after " + count, x.traceLength(), Math.min(count, 20));
        }
        int[] transitions = {3, NONE, 2, 1, 0};
        for (int back = 0; back < 20; back++) {
            due("traceEvent(" + back + ")", x.traceEvent(back), events[count - 1 - back]);
            due("traceTransition(" + back + ")", x.traceTransition(back), transitions[events[count - 1 - back]]);
        }
        due("traceEvent(20)", x.traceEvent(20), NONE);
        due("traceTransition(20)", x.traceTransition(20), NONE);
    }

    private static void reachable() {
        section(7, "A configuration is reachable if it is the current one or if a sequence of accepted events leads from the"
            + " current configuration to it.");
        ContractMachine x = Bench.machine("state a;state b;state c;state d;event e;event f;var v 0;on a e goto b;on b e goto c;"
            + "on a f goto d;on c f goto c do v add 1;inside d v above 0;always v below 2;");
        due("the current one, b, c and c with 1", x.reachableCount(), 4);
        due("isReachable(3), by a rejected event alone", x.isReachable(3), false);
        x.fire(0);
        due("isReachable(0), which was left for good", x.isReachable(0), false);
        x.fire(0);
        x.fire(1);
        due("the current one alone", x.reachableCount(), 1);
    }

    private static void deadlock() {
        section(7, "A configuration is a deadlock if every event is rejected in it.");
        String[] reasons = {"", "on b e goto a;", "on a e goto a when v above 0;", "on a e goto a do v sub 1;",
            "on a e goto b;inside b v above 0;", "on a e goto b when v above 0;on a f goto a do v sub 1;on a g goto b;inside b v above 0;"};
        for (String reason : reasons) {
            ContractMachine x = Bench.machine("state a;state b;event e;event f;event g;var v 0;" + reason);
            due("isDeadlocked() with " + reason, x.isDeadlocked(), true);
        }
        for (char event : new char[] {'e', 'f', 'g'}) {
            ContractMachine x = Bench.machine("state a;event e;event f;event g;var v 0;on a " + event + " goto a;");
            due("isDeadlocked() where " + event + " alone is accepted", x.isDeadlocked(), false);
            due("deadlockCount() where " + event + " alone is accepted", x.deadlockCount(), 0);
        }
    }

    private TermSentences() {
    }
}
