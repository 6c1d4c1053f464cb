import java.util.function.IntUnaryOperator;

/** Promises 1 and 8 to 50: what a machine answers without being changed. */
final class AnswerSentences extends Said {
    static void test() {
        newObject();
        counts();
        names();
        refusedIndexes();
        currentAndInitial();
        transitions();
        invariants();
        verdicts();
        takenAndVisited();
        verdictCounts();
        stateCoverage();
        transitionCoverage();
        firstUncovered();
        mostVisited();
        trace();
        reachability();
        steps();
        firstEvents();
        takeable();
        deadlocks();
        consistency();
        meanValue();
    }

    /** All rows but that of the invariants are full; the last transition has a guard and an action. */
    private static ContractMachine guarded() {
        return Bench.machine(times(10, "state #;") + times(8, "event #;") + times(3, "var # 5;") + times(22, "on a b goto a;")
            + "on a h goto j;on j h goto j when c above 3 do c sub 1;inside j c above 1;");
    }

    private static void newObject() {
        promise(1, "Creates the machine of the setup text \"" + Bench.FIRST_SETUP + "\" with an empty input buffer and an empty output.");
        ContractMachine x = new ContractMachine();
        ContractMachine y = new ContractMachine();
        Bench.feed(y, Bench.FIRST_SETUP);
        due("loadMachine() of that text", y.loadMachine(), 3);
        due("everything", everything(x), everything(y));
        due("outputByte(0)", x.outputByte(0), NONE);
        due("truncateInput(1)", x.truncateInput(1), false);
        due("appendInput", x.appendInput(0, 0, 0, 0, 0), 20);
        dueElement("undo()", () -> new ContractMachine().undo());
        dueElement("restoreState()", () -> new ContractMachine().restoreState());
        due("the configuration", Bench.configuration(new ContractMachine()), "idle coins=0 cups=3");
        // One object's changes are none of another's.
        x.fire(0);
        due("the next new object", everything(new ContractMachine()), everything(Bench.machine(Bench.FIRST_SETUP)));
    }

    private static void counts() {
        ContractMachine first = new ContractMachine();
        ContractMachine least = Bench.machine("state a;event e;var v 1;");
        ContractMachine most = fullest();
        promise(8, "Returns the number of states.");
        due("of a new object, the least and the most", "" + first.stateCount() + least.stateCount() + most.stateCount(), "3110");
        promise(9, "Returns the number of events.");
        due("of a new object, the least and the most", "" + first.eventCount() + least.eventCount() + most.eventCount(), "318");
        promise(10, "Returns the number of variables.");
        due("of a new object, the least and the most", "" + first.variableCount() + least.variableCount() + most.variableCount(), "213");
        promise(11, "Returns the number of transitions.");
        due("of a new object, the least and the most", "" + first.transitionCount() + least.transitionCount() + most.transitionCount(), "6024");
        promise(12, "Returns the number of invariants.");
        due("of a new object, the least and the most", "" + first.invariantCount() + least.invariantCount() + most.invariantCount(), "2012");
        least.addAlways(0, ContractMachine.EQUALS, 1);
        due("after addAlways", least.invariantCount(), 1);
        least.undo();
        due("after undo", least.invariantCount(), 0);
    }

    private static void names() {
        ContractMachine x = Bench.machine("state a;state bcdefg;event h;event ijklmn;var o 1;var pqrstu 1;");
        promise(13, "Returns a letter of the name of a state.");
        due("the second", name(i -> x.stateNameByte(1, i)), "bcdefg");
        promise(13, "- index: index of the letter, from 0");
        due("stateNameByte(1, 0)", x.stateNameByte(1, 0), 'b');
        promise(13, "Returns the letter as a byte, or NONE if there is no such letter.");
        promiseOfLetters(i -> x.stateNameByte(0, i), i -> x.stateNameByte(1, i), 'a', 'g');
        promise(14, "Returns a letter of the name of an event.");
        due("the second", name(i -> x.eventNameByte(1, i)), "ijklmn");
        promise(14, "- index: index of the letter, from 0");
        due("eventNameByte(1, 0)", x.eventNameByte(1, 0), 'i');
        promise(14, "Returns the letter as a byte, or NONE if there is no such letter.");
        promiseOfLetters(i -> x.eventNameByte(0, i), i -> x.eventNameByte(1, i), 'h', 'n');
        promise(15, "Returns a letter of the name of a variable.");
        due("the second", name(i -> x.variableNameByte(1, i)), "pqrstu");
        promise(15, "- index: index of the letter, from 0");
        due("variableNameByte(1, 0)", x.variableNameByte(1, 0), 'p');
        promise(15, "Returns the letter as a byte, or NONE if there is no such letter.");
        promiseOfLetters(i -> x.variableNameByte(0, i), i -> x.variableNameByte(1, i), 'o', 'u');
        // A shorter name where a longer one stood before.
        Bench.feed(x, "state xy;event zz;var w 1;");
        x.loadMachine();
        due("stateNameByte(0, 1)", x.stateNameByte(0, 1), 'y');
        due("stateNameByte(0, 2)", x.stateNameByte(0, 2), NONE);
        due("variableNameByte(0, 1)", x.variableNameByte(0, 1), NONE);
    }

    private static String name(IntUnaryOperator letter) {
        StringBuilder name = new StringBuilder();
        for (int i = 0; letter.applyAsInt(i) != NONE; i++) {
            name.append((char) letter.applyAsInt(i));
        }
        return name.toString();
    }

    private static void promiseOfLetters(IntUnaryOperator shortest, IntUnaryOperator longest, int only, int last) {
        due("the only letter", shortest.applyAsInt(0), only);
        due("the last of six letters", longest.applyAsInt(5), last);
        for (int index : new int[] {-1, 1, 2, 5, 6, MIN, MAX}) {
            due("letter " + index + " of one", shortest.applyAsInt(index), NONE);
        }
        for (int index : new int[] {-1, 6, 7, MIN, MAX}) {
            due("letter " + index + " of six", longest.applyAsInt(index), NONE);
        }
    }

    // ---- what has an index

    private interface Question {
        int answer(ContractMachine x, int index);
    }

    private static int bit(boolean b) {
        return b ? 1 : 0;
    }

    /** Asks for the first and the last of the least, the fullest and the first machine, and for what is not there. */
    private static void refused(int promise, String kind, int[] counts, Question question) {
        promise(promise, "Throws IndexOutOfBoundsException if there is no such " + kind);
        ContractMachine[] machines = {new ContractMachine(), fullest(), guarded(), Bench.machine("state a;event e;var v 1;")};
        for (int i = 0; i < machines.length; i++) {
            ContractMachine x = machines[i];
            int count = counts[i];
            String before = standing(x);
            if (count > 0) {
                due("the first is answered", answer(() -> question.answer(x, 0)).matches("-?\\d+"), true);
                due("the last is answered", answer(() -> question.answer(x, count - 1)).matches("-?\\d+"), true);
            }
            for (int wrong : new int[] {-1, count, count + 1, 99, MIN, MAX}) {
                dueIndex("index " + wrong, () -> question.answer(x, wrong));
            }
            due("the standing after that", standing(x), before);
        }
    }

    private static void refusedIndexes() {
        int[] states = {3, 10, 10, 1};
        refused(13, "state", states, (x, i) -> x.stateNameByte(i, 0));
        refused(13, "state", states, (x, i) -> x.stateNameByte(i, MAX));
        refused(31, "state", states, (x, i) -> x.visitsOf(i));
        refused(43, "state", states, (x, i) -> bit(x.isReachable(i)));
        refused(45, "state", states, (x, i) -> x.stepsTo(i));
        refused(46, "state", states, (x, i) -> x.firstEventTo(i));
        int[] events = {3, 8, 8, 1};
        refused(14, "event", events, (x, i) -> x.eventNameByte(i, 0));
        refused(14, "event", events, (x, i) -> x.eventNameByte(i, -1));
        refused(26, "event", events, (x, i) -> x.verdictOf(i));
        refused(27, "event", events, (x, i) -> x.chosenTransition(i));
        refused(28, "event", events, (x, i) -> x.brokenInvariant(i));
        int[] variables = {2, 3, 3, 1};
        refused(15, "variable", variables, (x, i) -> x.variableNameByte(i, 0));
        refused(15, "variable", variables, (x, i) -> x.variableNameByte(i, 9));
        refused(17, "variable", variables, (x, i) -> x.valueOf(i));
        refused(18, "variable", variables, (x, i) -> x.initialValueOf(i));
        int[] transitions = {6, 24, 24, 0};
        refused(19, "transition", transitions, (x, i) -> x.sourceOf(i));
        refused(20, "transition", transitions, (x, i) -> x.eventOf(i));
        refused(21, "transition", transitions, (x, i) -> x.targetOf(i));
        refused(22, "transition", transitions, (x, i) -> bit(x.hasGuard(i)));
        refused(23, "transition", transitions, (x, i) -> bit(x.guardHolds(i)));
        refused(30, "transition", transitions, (x, i) -> x.timesTaken(i));
        refused(44, "transition", transitions, (x, i) -> bit(x.canBeTaken(i)));
        int[] invariants = {2, 12, 1, 0};
        refused(24, "invariant", invariants, (x, i) -> x.stateOfInvariant(i));
        refused(25, "invariant", invariants, (x, i) -> bit(x.comparisonHolds(i)));
        // One that is taken back is not there any more.
        ContractMachine y = new ContractMachine();
        y.addAlways(0, ContractMachine.BELOW, 9);
        due("comparisonHolds(2) of an added one", y.comparisonHolds(2), true);
        y.undo();
        dueIndex("comparisonHolds(2) after undo", () -> bit(y.comparisonHolds(2)));
        dueIndex("stateOfInvariant(2) after undo", () -> y.stateOfInvariant(2));
    }

    private static void currentAndInitial() {
        ContractMachine x = guarded();
        promise(16, "Returns the current state. Returns the index of the state.");
        due("currentState() at first", x.currentState(), 0);
        x.fire(7);
        due("currentState(), the last", x.currentState(), 9);
        promise(17, "Returns the current value of a variable.");
        due("valueOf(2)", x.valueOf(2), 5);
        x.fire(7);
        due("valueOf(2) after fire", x.valueOf(2), 4);
        promise(17, "Returns the value, 0 to 9.");
        x.setValue(1, 9);
        due("valueOf(1), the greatest", x.valueOf(1), 9);
        x.setValue(1, 0);
        due("valueOf(1), the least", x.valueOf(1), 0);
        promise(18, "Returns the initial value of a variable.");
        due("initialValueOf(1) after setValue", x.initialValueOf(1), 5);
        due("initialValueOf(2) after fire", x.initialValueOf(2), 5);
        promise(18, "Returns the value, 0 to 9.");
        ContractMachine y = Bench.machine("state a;event e;var v 9;var w 0;var u 9;");
        due("the initial values", "" + y.initialValueOf(0) + y.initialValueOf(1) + y.initialValueOf(2), "909");
    }

    private static void transitions() {
        ContractMachine x = guarded();
        promise(19, "Returns the source state of a transition. - transition: index of a transition Returns the index of the state.");
        due("the first and the last", "" + x.sourceOf(0) + x.sourceOf(22) + x.sourceOf(23), "009");
        promise(20, "Returns the event of a transition. - transition: index of a transition Returns the index of the event.");
        due("the first and the last", "" + x.eventOf(0) + x.eventOf(22) + x.eventOf(23), "177");
        promise(21, "Returns the target state of a transition. - transition: index of a transition Returns the index of the state.");
        due("the first and the last", "" + x.targetOf(0) + x.targetOf(22) + x.targetOf(23), "099");
        promise(22, "Tells whether a transition has a guard. - transition: index of a transition Returns true if it has a guard.");
        due("hasGuard(22)", x.hasGuard(22), false);
        due("hasGuard(23), the last", x.hasGuard(23), true);
        promise(23, "Tells whether the guard of a transition holds for the current values.");
        due("guardHolds(23), though its source is another state", x.guardHolds(23), true);
        x.setValue(2, 3);
        due("guardHolds(23) at its constant", x.guardHolds(23), false);
        x.setValue(2, 4);
        due("guardHolds(23) above its constant", x.guardHolds(23), true);
        promise(23, "Returns true if the guard holds or the transition has no guard.");
        due("guardHolds(0), which has none", x.guardHolds(0), true);
        due("guardHolds(22), which has none", x.guardHolds(22), true);
    }

    private static void invariants() {
        ContractMachine x = fullest();
        promise(24, "Returns the state of an invariant.");
        due("stateOfInvariant(11), the last", x.stateOfInvariant(11), 9);
        due("stateOfInvariant(1) of a new object, inside the first state", new ContractMachine().stateOfInvariant(1), 0);
        promise(24, "Returns the index of the state, or NONE if the invariant holds always.");
        due("stateOfInvariant(0)", x.stateOfInvariant(0), NONE);
        due("stateOfInvariant(10)", x.stateOfInvariant(10), NONE);
        promise(25, "Tells whether the comparison of an invariant holds for the current values, whatever the current state is.");
        due("comparisonHolds(11) in a", x.comparisonHolds(11), true);
        x.setValue(2, 1);
        due("comparisonHolds(11) in a, at its constant", x.comparisonHolds(11), false);
        promise(25, "Returns true if the comparison holds.");
        due("comparisonHolds(10)", x.comparisonHolds(10), true);
        x.setValue(2, 2);
        due("comparisonHolds(11) above its constant", x.comparisonHolds(11), true);
    }

    // ---- verdicts

    private static void verdicts() {
        ContractMachine x = Bench.machine("state a;state b;event e;event f;event g;event h;event i;var v 0;on a e goto a;"
            + "on b f goto a;on a g goto a when v above 0;on a g goto a when v above 1;on a h goto b do v sub 1;on a i goto b;"
            + "inside b v above 1;always v below 9;inside b v above 0;");
        int[] verdicts = {ACCEPTED, NO_TRANSITION, GUARD_FAILED, OUT_OF_BOUNDS, INVARIANT_BROKEN};
        promise(26, "Returns the verdict of an event in the current configuration. - event: index of an event"
            + " Returns ACCEPTED, NO_TRANSITION, GUARD_FAILED, OUT_OF_BOUNDS or INVARIANT_BROKEN.");
        for (int event = 0; event < 5; event++) {
            due("verdictOf(" + event + ")", x.verdictOf(event), verdicts[event]);
        }
        due("currentState() after that", x.currentState(), 0);
        due("the counts after that", x.acceptedCount() + x.rejectedCount() + x.traceLength(), 0);
        promise(27, "Returns the transition that an event chooses in the current configuration. - event: index of an event"
            + " Returns the index of the chosen transition, also if the event is rejected with OUT_OF_BOUNDS or INVARIANT_BROKEN;");
        due("of an accepted event", x.chosenTransition(0), 0);
        due("of one with OUT_OF_BOUNDS", x.chosenTransition(3), 4);
        due("of one with INVARIANT_BROKEN", x.chosenTransition(4), 5);
        due("the last of the fullest", fullest().chosenTransition(7), 22);
        promise(27, "NONE if the verdict is NO_TRANSITION or GUARD_FAILED.");
        due("of one with NO_TRANSITION", x.chosenTransition(1), NONE);
        due("of one with GUARD_FAILED", x.chosenTransition(2), NONE);
        promise(28, "Returns the invariant that an event would break in the current configuration. - event: index of an event"
            + " Returns the lowest index of an invariant that the next configuration breaks;");
        due("brokenInvariant(4), of two", x.brokenInvariant(4), 0);
        x.setValue(0, 1);
        due("brokenInvariant(4), of one", x.brokenInvariant(4), 0);
        ContractMachine y = fullest();
        y.setValue(2, 1);
        due("brokenInvariant(7), the last", y.brokenInvariant(7), 11);
        promise(28, "NONE if the verdict is not INVARIANT_BROKEN.");
        for (int event = 0; event < 4; event++) {
            x.setValue(0, 0);
            due("brokenInvariant(" + event + ")", x.brokenInvariant(event), NONE);
        }
        // Right behind a question whose answer was an invariant.
        x.brokenInvariant(4);
        due("brokenInvariant(1) after brokenInvariant(4)", x.brokenInvariant(1), NONE);
        x.brokenInvariant(4);
        due("brokenInvariant(3) after brokenInvariant(4)", x.brokenInvariant(3), NONE);
        promise(29, "Tells whether the current configuration is a deadlock. Returns true if every event is rejected.");
        due("isDeadlocked() where the first event is accepted", x.isDeadlocked(), false);
        due("isDeadlocked() where the last event is accepted", only(7).isDeadlocked(), false);
        due("isDeadlocked() where the first alone is accepted", only(0).isDeadlocked(), false);
        due("isDeadlocked() where none is accepted", Bench.machine(WHOLE + "on b e goto a;on b f goto a;").isDeadlocked(), true);
        ContractMachine z = Bench.machine("state a;event e;var v 8;on a e goto a do v add 1;");
        z.fire(0);
        due("isDeadlocked() at the greatest value", z.isDeadlocked(), true);
        z.undo();
        due("isDeadlocked() after undo", z.isDeadlocked(), false);
    }

    /** Eight events, of which one alone is ever accepted. */
    private static ContractMachine only(int event) {
        return Bench.machine("state a;state b;" + times(8, "event #;") + "var v 0;on a " + (char) ('a' + event) + " goto b;on b "
            + (char) ('a' + event) + " goto a;");
    }

    // ---- coverage

    private static void takenAndVisited() {
        ContractMachine x = guarded();
        promise(30, "Returns how often a transition was taken.");
        due("timesTaken(22) at first", x.timesTaken(22), 0);
        x.fire(7);
        x.fire(7);
        x.fire(7);
        x.fire(7);
        due("timesTaken(0)", x.timesTaken(0), 0);
        promise(30, "Returns the number of times.");
        due("timesTaken(22)", x.timesTaken(22), 1);
        due("timesTaken(23), the last, once refused", x.timesTaken(23), 2);
        promise(31, "Returns how often a state was visited.");
        due("visitsOf(0), the initial state", x.visitsOf(0), 1);
        due("visitsOf(8)", x.visitsOf(8), 0);
        promise(31, "Returns the number of visits.");
        due("visitsOf(9), the last, twice from itself", x.visitsOf(9), 3);
        ContractMachine y = only(3);
        for (int i = 0; i < 300; i++) {
            y.fire(3);
        }
        due("timesTaken(1) after 300 events", y.timesTaken(1), 150);
        due("visitsOf(0) after 300 events", y.visitsOf(0), 151);
    }

    private static void verdictCounts() {
        ContractMachine x = new ContractMachine();
        promise(32, "Returns how many fired events were accepted. Returns the number of events.");
        due("acceptedCount() at first", x.acceptedCount(), 0);
        Bench.script(x, "fire push;fire take;fire coin;fire push;fire coin;set coins 5;fire coin;fire coin;");
        due("acceptedCount()", x.acceptedCount(), 2);
        promise(33, "Returns how many fired events were rejected. Returns the number of events.");
        due("rejectedCount() at first", new ContractMachine().rejectedCount(), 0);
        due("rejectedCount()", x.rejectedCount(), 5);
        promise(34, "Returns how many fired events were rejected with a verdict.");
        due("rejectedWith(NO_TRANSITION)", x.rejectedWith(NO_TRANSITION), 1);
        due("rejectedWith(OUT_OF_BOUNDS)", x.rejectedWith(OUT_OF_BOUNDS), 1);
        promise(34, "- verdict: NO_TRANSITION, GUARD_FAILED, OUT_OF_BOUNDS or INVARIANT_BROKEN Returns the number of events.");
        due("rejectedWith(GUARD_FAILED)", x.rejectedWith(GUARD_FAILED), 1);
        due("rejectedWith(INVARIANT_BROKEN)", x.rejectedWith(INVARIANT_BROKEN), 2);
        promise(34, "Throws IllegalArgumentException if verdict is not one of these");
        for (int wrong : new int[] {ACCEPTED, 5, -1, 6, MIN, MAX}) {
            dueArgument("rejectedWith(" + wrong + ")", () -> x.rejectedWith(wrong));
        }
    }

    private static void stateCoverage() {
        promise(35, "Returns the state coverage. Returns the number of states that were visited converted to float,"
            + " divided by the number of states converted to float.");
        due("of one state", Bench.machine("state a;event e;var v 1;").stateCoverage(), 1);
        ContractMachine x = Bench.machine(times(10, "state #;") + "event e;var v 1;" + times(9, "on # e goto J;")
            .replaceAll("on (.) e goto J;", "on $1 e goto J$1;").replace("Ja", "b").replace("Jb", "c").replace("Jc", "d")
            .replace("Jd", "e").replace("Je", "f").replace("Jf", "g").replace("Jg", "h").replace("Jh", "i").replace("Ji", "j"));
        for (int visited = 1; visited <= 10; visited++) {
            due("of " + visited + " out of ten", x.stateCoverage(), (float) visited / 10f);
            due("firstUncovered() then", x.firstUncovered(), visited < 10 ? visited - 1 : NONE);
            x.fire(0);
        }
        due("the first state after clearCoverage in the last", x.clearCoverage() + x.visitsOf(0), 9);
        due("after clearCoverage in the last", x.stateCoverage(), 1f / 10f);
        ContractMachine y = new ContractMachine();
        due("a third, as a float", y.stateCoverage(), 1f / 3f);
        y.fire(0);
        due("two thirds, as a float", y.stateCoverage(), 2f / 3f);
    }

    private static void transitionCoverage() {
        promise(36, "Returns the transition coverage. Returns the number of transitions that were taken converted to float,"
            + " divided by the number of transitions converted to float; 1 if there are no transitions.");
        due("without transitions", Bench.machine(WHOLE).transitionCoverage(), 1);
        ContractMachine x = guarded();
        due("of none out of 24", x.transitionCoverage(), 0);
        x.fire(7);
        due("of one out of 24", x.transitionCoverage(), 1f / 24f);
        x.fire(7);
        due("of two out of 24, the last among them", x.transitionCoverage(), 2f / 24f);
        x.fire(7);
        due("of two, one of them twice", x.transitionCoverage(), 2f / 24f);
        ContractMachine y = Bench.machine("state a;event e;var v 1;on a e goto a;");
        due("of none out of one", y.transitionCoverage(), 0);
        y.fire(0);
        due("of one out of one", y.transitionCoverage(), 1);
        ContractMachine z = Bench.machine("state a;event e;event f;event g;var v 1;on a e goto a;on a f goto a;on a g goto a;");
        z.fire(0);
        due("a third, as a float", z.transitionCoverage(), 1f / 3f);
    }

    private static void firstUncovered() {
        promise(37, "Returns the first transition that was never taken. Returns the lowest index of such a transition,"
            + " or NONE if there is none.");
        due("without transitions", Bench.machine(WHOLE).firstUncovered(), NONE);
        ContractMachine x = Bench.machine("state a;event e;event f;event g;var v 1;on a e goto a;on a f goto a;on a g goto a;");
        int[] fired = {2, 0, 0, 1};
        int[] first = {0, 1, 1, NONE};
        due("at first", x.firstUncovered(), 0);
        for (int i = 0; i < fired.length; i++) {
            x.fire(fired[i]);
            due("after " + (i + 1), x.firstUncovered(), first[i]);
        }
        x.undo();
        due("after undo", x.firstUncovered(), 1);
        x.clearCoverage();
        due("after clearCoverage", x.firstUncovered(), 0);
        ContractMachine y = Bench.machine("state a;" + times(8, "event #;") + "var x 0;" + times(8, "on a # goto a when x equals 0;")
            + times(8, "on a # goto a when x equals 1;") + times(8, "on a # goto a;"));
        for (int i = 0; i < 24; i++) {
            due("with " + i + " of 24 taken", y.firstUncovered(), i);
            y.setValue(0, i / 8);
            y.fire(i % 8);
        }
        due("with all of 24 taken", y.firstUncovered(), NONE);
        due("transitionCoverage() then", y.transitionCoverage(), 1);
    }

    private static void mostVisited() {
        promise(38, "Returns the most visited state. Returns the index of the state; the lowest index if several have the same number of visits.");
        ContractMachine x = Bench.machine("state a;state b;state c;event e;event f;event g;var v 1;"
            + times(3, "on # e goto a;") + times(3, "on # f goto b;") + times(3, "on # g goto c;"));
        int[] fired = {2, 1, 1, 0, 0, 2, 2, 2};
        int[] most = {0, 0, 1, 0, 0, 0, 0, 2};
        due("at first", x.mostVisitedState(), 0);
        for (int i = 0; i < fired.length; i++) {
            x.fire(fired[i]);
            due("after " + (i + 1), x.mostVisitedState(), most[i]);
        }
        x.clearCoverage();
        due("after clearCoverage in c", x.mostVisitedState(), 2);
        x.fire(1);
        due("b like c", x.mostVisitedState(), 1);
        ContractMachine y = fullest();
        y.fire(7);
        due("the last like the first", y.mostVisitedState(), 0);
        y.fire(7);
        due("the last of ten", y.mostVisitedState(), 9);
    }

    private static void trace() {
        ContractMachine x = Bench.machine(WHOLE + "on b f goto a;on a e goto b;on b e goto a;");
        promise(39, "Returns the number of events in the trace. Returns the number, 0 to 20.");
        due("traceLength() of none", x.traceLength(), 0);
        x.fire(1);
        due("traceLength() after a rejected event", x.traceLength(), 0);
        x.fire(0);
        due("traceLength() of one", x.traceLength(), 1);
        x.fire(1);
        promise(40, "Returns an event of the trace. - back: 0 for the latest accepted event, 1 for the one before it, and so on");
        due("traceEvent(0)", x.traceEvent(0), 1);
        due("traceEvent(1)", x.traceEvent(1), 0);
        promise(40, "Returns the index of the event, or NONE if there is no such event in the trace.");
        for (int back : new int[] {2, 3, 19, 20, -1, MIN, MAX}) {
            due("traceEvent(" + back + ")", x.traceEvent(back), NONE);
        }
        promise(41, "Returns a transition of the trace. - back: 0 for the latest accepted event, 1 for the one before it, and so on");
        due("traceTransition(0)", x.traceTransition(0), 0);
        due("traceTransition(1)", x.traceTransition(1), 1);
        promise(41, "Returns the index of the transition that the event took, or NONE if there is no such event in the trace.");
        for (int back : new int[] {2, 3, 19, 20, -1, MIN, MAX}) {
            due("traceTransition(" + back + ")", x.traceTransition(back), NONE);
        }
        traceThatIsFull();
    }

    private static void traceThatIsFull() {
        promise(39, "Returns the number, 0 to 20.");
        ContractMachine x = Bench.machine(WHOLE + "on a e goto b;on b f goto a;");
        for (int i = 0; i < 19; i++) {
            x.fire(i % 2);
        }
        due("traceLength() of 19", x.traceLength(), 19);
        due("traceEvent(18) of 19", x.traceEvent(18), 0);
        due("traceEvent(19) of 19", x.traceEvent(19), NONE);
        x.fire(1);
        due("traceLength() of 20", x.traceLength(), 20);
        due("traceEvent(19) of 20", x.traceEvent(19), 0);
        due("traceTransition(19) of 20", x.traceTransition(19), 0);
        x.fire(0);
        due("traceLength() of 21", x.traceLength(), 20);
        due("traceEvent(19) of 21", x.traceEvent(19), 1);
        due("traceTransition(19) of 21", x.traceTransition(19), 1);
        due("traceEvent(20) of 21", x.traceEvent(20), NONE);
        due("traceTransition(20) of 21", x.traceTransition(20), NONE);
        x.undo();
        due("traceEvent(19) after undo, the one that had gone", x.traceEvent(19), 0);
        due("traceTransition(19) after undo", x.traceTransition(19), 0);
        x.reset();
        due("traceLength() after reset", x.traceLength(), 0);
        x.fire(0);
        due("traceLength() of one after reset", x.traceLength(), 1);
        due("traceEvent(1) after reset", x.traceEvent(1), NONE);
    }

    // ---- reachability

    /** Every configuration is reachable: in the last state each value can be counted up and down, and a ring joins the states. */
    private static ContractMachine everywhere() {
        return Bench.machine(everyConfiguration("on i a goto j;"));
    }

    private static String everyConfiguration(String fromTheLastButOne) {
        StringBuilder text = new StringBuilder(times(10, "state #;") + times(7, "event #;") + times(3, "var # 9;"));
        for (char s = 'a'; s < 'i'; s++) {
            text.append("on ").append(s).append(" a goto ").append((char) (s + 1)).append(';');
        }
        return text.append(fromTheLastButOne).append("on j a goto a;on j b goto j do a add 1;on j c goto j do b add 1;on j d goto j do c add 1;"
            + "on j e goto j do a sub 1;on j f goto j do b sub 1;on j g goto j do c sub 1;").toString();
    }

    private static void reachability() {
        promise(42, "Counts the reachable configurations. Returns the number of configurations, including the current one.");
        due("the current one alone", Bench.machine(WHOLE).reachableCount(), 1);
        due("of a new object", new ContractMachine().reachableCount(), 27);
        due("the current one by a way back", Bench.machine(WHOLE + "on a e goto b;on b e goto a;").reachableCount(), 2);
        due("the current one by itself", Bench.machine(WHOLE + "on a e goto a;").reachableCount(), 1);
        ContractMachine x = everywhere();
        due("all that there can be", x.reachableCount(), 10000);
        due("isConsistent()", x.isConsistent(), true);
        due("stepsTo(9)", x.stepsTo(9), 9);
        due("stepsTo(9) from the next state", x.fire(0) + x.stepsTo(9), 8);
        due("stepsTo(0) from the next state", x.stepsTo(0), 9);
        x.addAlways(0, ContractMachine.EQUALS, 9);
        due("all with one value bound", x.reachableCount(), 1000);
        promise(43, "Tells whether a state is reachable. - state: index of a state Returns true if a reachable configuration has this state.");
        due("the current state", Bench.machine(WHOLE).isReachable(0), true);
        due("another state without a way", Bench.machine(WHOLE).isReachable(1), false);
        due("a state with a way", Bench.machine(WHOLE + "on a f goto b;").isReachable(1), true);
        due("a state that an invariant closes", Bench.machine(WHOLE + "on a f goto b;inside b v above 1;").isReachable(1), false);
        due("a state behind a guard", Bench.machine(WHOLE + "on a f goto b when v above 8;on a e goto a do v add 1;").isReachable(1), true);
        due("a state behind a guard out of reach", Bench.machine(WHOLE + "on a f goto b when v above 8;on a e goto a do v add 3;")
            .isReachable(1), false);
        due("the last of ten", everywhere().isReachable(9), true);
    }

    private static void steps() {
        promise(45, "Returns how many accepted events are necessary to come to a state. - state: index of a state"
            + " Returns the least number, 0 if it is the current state, or NONE if it is not reachable.");
        ContractMachine x = Bench.machine("state a;state b;state c;event e;event f;event g;var v 0;on a e goto a do v add 1;"
            + "on a f goto b when v above 8;on a g goto b when v equals 4;on b e goto a;on b f goto c when v equals 9;");
        due("stepsTo(0)", x.stepsTo(0), 0);
        due("stepsTo(1), by the shorter of two ways", x.stepsTo(1), 5);
        due("stepsTo(2), by the longer one alone", x.stepsTo(2), 11);
        x.setValue(0, 5);
        due("stepsTo(1) behind the shorter way", x.stepsTo(1), 5);
        x.setValue(0, 9);
        x.fire(1);
        due("stepsTo(1) in it", x.stepsTo(1), 0);
        due("stepsTo(0), a way back", x.stepsTo(0), 1);
        x.fire(1);
        due("stepsTo(0), no way back", x.stepsTo(0), NONE);
        due("stepsTo(1), no way back", x.stepsTo(1), NONE);
        due("stepsTo(2)", x.stepsTo(2), 0);
        // The longest way that there can be within a state: 999 steps of counting.
        StringBuilder text = new StringBuilder("state a;state b;event e;event f;event g;event h;var x 0;var y 0;var z 0;");
        text.append("on a e goto a when z below 9 do z add 1;on a f goto b when z equals 9 do z set 0;"
            + "on b e goto a when y below 9 do y add 1;");
        due("stepsTo(1) after counting", Bench.machine(text.toString()).stepsTo(1), 10);
        due("reachableCount() of counting", Bench.machine(text.toString()).reachableCount(), 110);
    }

    private static void firstEvents() {
        promise(46, "Returns the first event of a shortest sequence of accepted events to a state. - state: index of a state"
            + " Returns the lowest index of an event with which a shortest sequence begins;");
        ContractMachine x = Bench.machine("state a;state b;state c;state d;state z;event e;event f;event g;event h;var v 0;"
            + "on a h goto b;on a g goto c;on a f goto a do v add 1;on b e goto d;on c h goto d;on d e goto a;on a e goto d when v above 1;");
        due("firstEventTo(3), of two ways of two events", x.firstEventTo(3), 2);
        due("stepsTo(3)", x.stepsTo(3), 2);
        due("firstEventTo(1)", x.firstEventTo(1), 3);
        x.fire(1);
        due("firstEventTo(3), of three ways of two events", x.firstEventTo(3), 1);
        x.fire(1);
        due("firstEventTo(3), of one event", x.firstEventTo(3), 0);
        due("firstEventTo(2)", x.firstEventTo(2), 2);
        promise(46, "NONE if the state is the current state or is not reachable.");
        due("firstEventTo(0), the current state, though a way leads back", x.firstEventTo(0), NONE);
        due("firstEventTo(4), not reachable", x.firstEventTo(4), NONE);
        x.fire(0);
        due("firstEventTo(3), the current state now", x.firstEventTo(3), NONE);
        due("firstEventTo(0) now", x.firstEventTo(0), 0);
        // The first event can be the last one of eight; and the last state the one that it leads to.
        due("firstEventTo(9) by the last event", fullest().firstEventTo(9), 7);
        // Two configurations of the same state, equally near: the lower first event leads to the later found one in no order.
        ContractMachine y = Bench.machine("state a;state b;event e;event f;var v 0;on a f goto b;on a e goto b do v add 1;");
        due("firstEventTo(1) to either of two configurations", y.firstEventTo(1), 0);
    }

    private static void takeable() {
        promise(44, "Tells whether a transition can be taken some time. - transition: index of a transition"
            + " Returns true if in a reachable configuration its event chooses it and is accepted.");
        ContractMachine x = Bench.machine("state a;state b;event e;event f;event g;event h;var v 0;"
            + "on a e goto a when v below 5 do v add 1;on a f goto a when v above 5;on a g goto a;on a g goto b;"
            + "on a h goto b do v sub 9;on b e goto b;on a e goto a do v add 5;always v below 7;");
        boolean[] want = {true, false, true, false, false, false, false};
        String[] why = {"now", "its guard never holds", "now", "another one is chosen", "out of bounds", "its source is not reachable",
            "it breaks an invariant"};
        for (int t = 0; t < want.length; t++) {
            due("canBeTaken(" + t + "): " + why[t], x.canBeTaken(t), want[t]);
        }
        x.setValue(0, 6);
        due("canBeTaken(0) behind its last value", x.canBeTaken(0), false);
        due("canBeTaken(1) at its value", x.canBeTaken(1), true);
        ContractMachine y = guarded();
        due("canBeTaken(23), the last", y.canBeTaken(23), true);
        due("canBeTaken(1), behind the first of its like", y.canBeTaken(1), false);
        for (int i = 0; i < 4; i++) {
            y.fire(7);
        }
        due("canBeTaken(23) in the end", y.canBeTaken(23), false);
        due("canBeTaken(22) in the end", y.canBeTaken(22), false);
        due("isDeadlocked() in the end", y.isDeadlocked(), true);
    }

    private static void deadlocks() {
        String counter = "state a;state b;event e;event f;var v 6;on a e goto a do v add 1;on a f goto b when v above 7;";
        promise(47, "Counts the reachable deadlocks. Returns the number of reachable configurations that are deadlocks.");
        ContractMachine x = Bench.machine(counter);
        due("b with 8 and with 9", x.deadlockCount(), 2);
        due("none", Bench.machine(WHOLE + "on a e goto a;").deadlockCount(), 0);
        due("the current one", Bench.machine(WHOLE).deadlockCount(), 1);
        due("of a new object", new ContractMachine().deadlockCount(), 1);
        due("where the first of eight events alone is accepted", only(0).deadlockCount(), 0);
        due("where the last of eight events alone is accepted", only(7).deadlockCount(), 0);
        due("none of all configurations", everywhere().deadlockCount(), 0);
        // The very last of all configurations that is found: in i with 0, 0 and 0.
        ContractMachine y = Bench.machine(everyConfiguration("on i a goto j when a above 0;on i b goto j when b above 0;"
            + "on i c goto j when c above 0;"));
        due("the last of all configurations", y.deadlockCount(), 1);
        due("reachableCount() then", y.reachableCount(), 10000);
        promise(48, "Returns how many accepted events are necessary to come to a deadlock. Returns the least number,"
            + " 0 if the current configuration is a deadlock, or NONE if no deadlock is reachable.");
        due("stepsToDeadlock(), to the nearer of two", x.stepsToDeadlock(), 3);
        due("stepsToDeadlock(), to the last of all configurations", y.stepsToDeadlock(), 45);
        x.setValue(0, 9);
        due("stepsToDeadlock(), to the only one left", x.stepsToDeadlock(), 1);
        x.fire(1);
        due("stepsToDeadlock() in it", x.stepsToDeadlock(), 0);
        due("isDeadlocked() in it", x.isDeadlocked(), true);
        x.undo();
        due("stepsToDeadlock() after undo", x.stepsToDeadlock(), 1);
        due("without a deadlock", Bench.machine(WHOLE + "on a e goto a;").stepsToDeadlock(), NONE);
        due("without transitions", Bench.machine(WHOLE).stepsToDeadlock(), 0);
        due("of a new object", new ContractMachine().stepsToDeadlock(), 7);
    }

    private static void consistency() {
        String[] said = {"Checks the contract and the accounts.", "The current configuration breaks no invariant.",
            "The numbers of times that the transitions were taken add up to the accepted events.",
            "The rejected events are the sum over their verdicts.",
            "The visits of all states are the accepted events plus the initial visits.",
            "The number of reachable configurations is the same by a search in breadth and by a search in depth.",
            "Returns true if all of this holds, which is always the case."};
        for (int i = 0; i < said.length; i++) {
            promise(49, said[i]);
            consistent(new ContractMachine(), i);
            consistent(Bench.machine("state a;event e;var v 0;"), i);
            consistent(fullest(), i);
            consistent(everywhere(), i);
            consistent(Bench.machine(WHOLE + "on a e goto b;on b e goto a;on b f goto b do v add 3;inside a v below 5;"), i);
        }
    }

    /** Always the case: at first, after events, after each kind of change, and after it was taken back. */
    private static void consistent(ContractMachine x, int turns) {
        int events = x.eventCount();
        due("isConsistent() at first", x.isConsistent(), true);
        due("isConsistent() again", x.isConsistent(), true);
        for (int i = 0; i <= turns; i++) {
            x.fire((turns + i) % events);
            x.fire(events - 1);
        }
        due("isConsistent() after events", x.isConsistent(), true);
        due("the accounts after events", accounts(x), true);
        x.saveState();
        x.reset();
        due("isConsistent() after reset", x.isConsistent(), true);
        x.setValue(0, x.valueOf(0));
        x.clearCoverage();
        due("isConsistent() after clearCoverage", x.isConsistent(), true);
        due("the accounts after clearCoverage", accounts(x), true);
        x.undo();
        due("isConsistent() after undo", x.isConsistent(), true);
        x.restoreState();
        int reachable = x.reachableCount();
        int steps = x.stepsTo(0);
        due("isConsistent() after restoreState", x.isConsistent(), true);
        due("the accounts after restoreState", accounts(x), true);
        due("reachableCount() after isConsistent()", x.reachableCount(), reachable);
        due("stepsTo(0) after isConsistent()", x.stepsTo(0), steps);
    }

    /** The same sums by the answers alone. */
    private static boolean accounts(ContractMachine x) {
        int taken = 0;
        for (int i = 0; i < x.transitionCount(); i++) {
            taken += x.timesTaken(i);
        }
        int visits = 0;
        for (int i = 0; i < x.stateCount(); i++) {
            visits += x.visitsOf(i);
        }
        int rejected = 0;
        for (int i = 1; i <= 4; i++) {
            rejected += x.rejectedWith(i);
        }
        return taken == x.acceptedCount() && visits == x.acceptedCount() + 1 && rejected == x.rejectedCount();
    }

    private static void meanValue() {
        promise(50, "Returns the mean value of the variables. Returns the sum of the current values converted to double,"
            + " divided by the number of variables converted to double.");
        due("of one, the least", Bench.machine("state a;event e;var v 0;").meanValue(), 0);
        due("of one, the greatest", Bench.machine("state a;event e;var v 9;").meanValue(), 9);
        due("of two", new ContractMachine().meanValue(), 1.5);
        ContractMachine x = Bench.machine("state a;event e;var u 9;var v 9;var w 9;");
        due("of three, the greatest", x.meanValue(), 9);
        x.setValue(0, 0);
        x.setValue(1, 1);
        due("of three", x.meanValue(), 10.0 / 3.0);
        x.setValue(2, 0);
        due("a third, as a double", x.meanValue(), 1.0 / 3.0);
        // A variable of a machine before counts no more.
        Bench.feed(x, "state a;event e;var v 4;");
        x.loadMachine();
        due("of one behind three", x.meanValue(), 4);
    }

    private AnswerSentences() {
    }
}
