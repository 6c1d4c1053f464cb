/** Section 9 of the document's terms and promises 51 to 60: changes, undo, the output and the saved state. */
final class ChangeSentences extends Said {
    static void test() {
        changes();
        latestChanges();
        orderOfExceptions();
        throwingLeavesAll();
        fire();
        setValue();
        reset();
        clearCoverage();
        addAlways();
        undo();
        output();
        savedState();
        restoring();
    }

    private static final String COUNTER = "state a;state b;event e;event f;var v 0;var w 3;on a e goto a do v add 1;on a f goto b;"
        + "on b f goto a;inside b v below 8;";

    // ---- section 9

    private static void changes() {
        section(9, "A method that is described as a change can be undone if it did not throw, even if it left everything as it was.");
        ContractMachine x = Bench.machine(COUNTER);
        String before = standing(x);
        x.setValue(0, 0);
        x.reset();
        x.clearCoverage();
        Bench.script(x, "");
        Bench.script(x, "set v 0;reset;clear;");
        due("the standing", standing(x), before);
        due("undo() of the fifth", x.undo(), 4);
        due("undo() of the fourth", x.undo(), 3);
        due("undo() of the third", x.undo(), 2);
        due("undo() of the second", x.undo(), 1);
        due("undo() of the first", x.undo(), 0);
        dueElement("undo() of none", () -> x.undo());
        due("the standing after all", standing(x), before);
        // What is not described as a change.
        ContractMachine y = Bench.machine(COUNTER);
        y.saveState();
        y.writeConfiguration();
        y.appendInput(0, 0, 0, 0, 0);
        y.truncateInput(0);
        Bench.script(y, "bad");
        Bench.feed(y, "bad");
        y.loadMachine();
        everything(y);
        dueElement("undo() of what is no change", () -> y.undo());
    }

    private static void latestChanges() {
        section(9, "At most the 8 latest changes can be undone.");
        for (int changes = 0; changes <= 20; changes++) {
            ContractMachine x = Bench.machine("state a;event e;event f;var v 0;on a e goto a;");
            for (int i = 0; i < changes; i++) {
                x.fire(0);
            }
            int left = Math.min(changes, 8);
            for (int i = left - 1; i >= 0; i--) {
                due("undo() after " + changes, x.undo(), i);
                due("acceptedCount()", x.acceptedCount(), changes - left + i);
            }
            dueElement("undo() of one more after " + changes, () -> x.undo());
            due("acceptedCount() in the end", x.acceptedCount(), changes - left);
        }
        // Changes and undoing by turns: what was lost once stays lost.
        ContractMachine y = Bench.machine("state a;event e;var v 0;on a e goto a;");
        int kept = 0;
        int accepted = 0;
        for (int round = 1; round <= 12; round++) {
            for (int i = 0; i < round % 5 + 3; i++) {
                y.fire(0);
                accepted++;
                kept = Math.min(8, kept + 1);
            }
            for (int i = 0; i < round % 4 + 1 && kept > 0; i++) {
                kept--;
                accepted--;
                due("undo() in round " + round, y.undo(), kept);
                due("acceptedCount() in round " + round, y.acceptedCount(), accepted);
                due("traceLength() in round " + round, y.traceLength(), Math.min(20, accepted));
            }
        }
    }

    private static void orderOfExceptions() {
        section(9, "If several exceptions apply to a call, the one that comes first in its throws clause is thrown.");
        ContractMachine x = new ContractMachine();
        dueIndex("setValue(2, 10)", () -> x.setValue(2, 10));
        dueIndex("setValue(-1, -1)", () -> x.setValue(-1, -1));
        dueIndex("setValue(2, 0)", () -> x.setValue(2, 0));
        dueArgument("setValue(0, 10), which an invariant forbids too", () -> x.setValue(0, 10));
        dueArgument("setValue(1, -1), which an invariant forbids too", () -> x.setValue(1, -1));
        dueState("setValue(0, 9)", () -> x.setValue(0, 9));
        dueIndex("addAlways(2, 6, 10)", () -> x.addAlways(2, 6, 10));
        dueIndex("addAlways(-1, 0, 0)", () -> x.addAlways(-1, 0, 0));
        dueArgument("addAlways(0, 6, 0)", () -> x.addAlways(0, 6, 0));
        dueArgument("addAlways(0, BELOW, -1), which would be broken", () -> x.addAlways(0, 0, -1));
        dueArgument("addAlways(0, ABOVE, 10), which would be broken", () -> x.addAlways(0, 5, 10));
        for (int i = 2; i < 12; i++) {
            x.addAlways(0, ContractMachine.BELOW, 9);
        }
        dueIndex("addAlways(2, 6, 10) with 12 invariants", () -> x.addAlways(2, 6, 10));
        dueArgument("addAlways(0, 6, 10) with 12 invariants", () -> x.addAlways(0, 6, 10));
        dueArgument("addAlways(0, BELOW, 10) with 12 invariants", () -> x.addAlways(0, 0, 10));
        dueState("addAlways(0, BELOW, 9) with 12 invariants", () -> x.addAlways(0, 0, 9));
    }

    private static ContractMachine used() {
        ContractMachine x = new ContractMachine();
        Bench.script(x, "fire coin;fire push;fire coin;");
        x.addAlways(1, ContractMachine.BELOW, 9);
        x.saveState();
        x.fire(0);
        x.fire(2);
        x.writeConfiguration();
        Bench.script(x, "  bad");
        Bench.feed(x, "fire coin;");
        return x;
    }

    private static void unchanged(String call, Class<?> thrown, java.util.function.ToIntFunction<ContractMachine> made) {
        ContractMachine x = used();
        due(call, answer(() -> made.applyAsInt(x)), thrown.getName());
        due("all after " + call, fate(x), fate(used()));
    }

    private static void throwingLeavesAll() {
        section(9, "A method that throws leaves everything unchanged.");
        Class<?> index = IndexOutOfBoundsException.class;
        Class<?> argument = IllegalArgumentException.class;
        Class<?> state = IllegalStateException.class;
        unchanged("fire(3)", index, x -> x.fire(3));
        unchanged("fire(-1)", index, x -> x.fire(-1));
        unchanged("setValue(2, 0)", index, x -> x.setValue(2, 0));
        unchanged("setValue(0, 10)", argument, x -> x.setValue(0, 10));
        unchanged("setValue(0, -1)", argument, x -> x.setValue(0, -1));
        unchanged("setValue(0, 6)", state, x -> x.setValue(0, 6));
        unchanged("setValue(1, 9)", state, x -> x.setValue(1, 9));
        unchanged("addAlways(-1, 0, 0)", index, x -> x.addAlways(-1, 0, 0));
        unchanged("addAlways(0, 6, 0)", argument, x -> x.addAlways(0, 6, 0));
        unchanged("addAlways(0, 0, 10)", argument, x -> x.addAlways(0, 0, 10));
        unchanged("addAlways(0, ABOVE, 8)", state, x -> x.addAlways(0, 5, 8));
        unchanged("addAlways(0, ABOVE, 0), broken at the start", state, x -> x.addAlways(0, 5, 0));
        unchanged("rejectedWith(0)", argument, x -> x.rejectedWith(0));
        unchanged("verdictOf(3)", index, x -> x.verdictOf(3));
        unchanged("stepsTo(3)", index, x -> x.stepsTo(3));
        ContractMachine x = new ContractMachine();
        x.writeConfiguration();
        dueElement("undo()", () -> x.undo());
        dueElement("restoreState()", () -> x.restoreState());
        ContractMachine y = new ContractMachine();
        y.writeConfiguration();
        due("all after them", fate(x), fate(y));
    }

    // ---- promises 51 to 55

    private static void fire() {
        promise(51, "Fires an event.");
        ContractMachine x = Bench.machine(COUNTER);
        x.fire(1);
        due("the configuration", Bench.configuration(x), "b v=0 w=3");
        promise(51, "This is a change, also if the event is rejected.");
        due("fire(0), rejected", x.fire(0), NO_TRANSITION);
        due("rejectedCount()", x.rejectedCount(), 1);
        due("undo() of the rejected one", x.undo(), 1);
        due("rejectedCount() after undo", x.rejectedCount(), 0);
        due("undo() of the accepted one", x.undo(), 0);
        due("the configuration after undo", Bench.configuration(x), "a v=0 w=3");
        promise(51, "Returns the verdict.");
        ContractMachine y = Bench.machine("state a;state b;event e;event f;event g;event h;event i;var v 9;on a e goto a;on b f goto a;"
            + "on a g goto a when v below 9;on a h goto a do v add 1;on a i goto b;inside b v below 9;");
        for (int event = 0; event < 5; event++) {
            due("fire(" + event + ")", y.fire(event), event);
            due("currentState()", y.currentState(), 0);
        }
        due("the counts", standing(y), "state 0 values 9 invariants 1b visits 2 0 taken 1 0 0 0 0 counts 1 4 1 1 1 1 trace 0/0");
        promise(51, "Throws IndexOutOfBoundsException if there is no such event");
        for (int wrong : new int[] {-1, 5, 8, MIN, MAX}) {
            dueIndex("fire(" + wrong + ")", () -> y.fire(wrong));
        }
        due("undo() after them", y.undo(), 4);
    }

    private static void setValue() {
        promise(52, "Sets the current value of a variable.");
        ContractMachine x = Bench.machine("state a;state b;event e;var u 1;var v 2;var w 3;on a e goto b;inside b w below 8;always u below 5;");
        x.setValue(2, 9);
        due("the configuration", Bench.configuration(x), "a u=1 v=2 w=9");
        due("initialValueOf(2)", x.initialValueOf(2), 3);
        due("the counts", x.acceptedCount() + x.rejectedCount() + x.traceLength() + x.visitsOf(1), 0);
        promise(52, "This is a change.");
        due("setValue(0, 4)", x.setValue(0, 4), 1);
        due("undo()", x.undo(), 1);
        due("the configuration after undo", Bench.configuration(x), "a u=1 v=2 w=9");
        promise(52, "- value: 0 to 9");
        due("setValue(1, 0)", x.setValue(1, 0), 2);
        due("setValue(1, 9)", x.setValue(1, 9), 0);
        promise(52, "Returns the value before that.");
        due("setValue(1, 9) to the same", x.setValue(1, 9), 9);
        due("setValue(1, 4)", x.setValue(1, 4), 9);
        promise(52, "Throws IndexOutOfBoundsException if there is no such variable");
        for (int wrong : new int[] {-1, 3, MIN, MAX}) {
            dueIndex("setValue(" + wrong + ", 5)", () -> x.setValue(wrong, 5));
        }
        ContractMachine y = Bench.machine("state a;event e;var v 0;");
        dueIndex("setValue(1, 5) of one variable", () -> y.setValue(1, 5));
        promise(52, "Throws IllegalArgumentException if value is out of range");
        for (int wrong : new int[] {-1, 10, MIN, MAX}) {
            dueArgument("setValue(1, " + wrong + ")", () -> x.setValue(1, wrong));
        }
        promise(52, "Throws IllegalStateException if the current state with the new values would break an invariant");
        due("setValue(0, 4) at the edge of an invariant", x.setValue(0, 4), 1);
        dueState("setValue(0, 5)", () -> x.setValue(0, 5));
        due("setValue(2, 8) outside of its state", x.setValue(2, 8), 9);
        due("setValue(2, 7)", x.setValue(2, 7), 8);
        x.fire(0);
        dueState("setValue(2, 8) inside of its state", () -> x.setValue(2, 8));
        due("setValue(2, 0) inside of its state", x.setValue(2, 0), 7);
        due("fire(0), for which no transition is asked", x.fire(0), NO_TRANSITION);
    }

    private static void reset() {
        promise(53, "Makes the initial configuration the current one.");
        ContractMachine x = Bench.machine(COUNTER);
        Bench.script(x, "fire e;fire e;fire f;set w 9;fire e;");
        String counts = standing(x).replaceAll(".*visits", "visits").replaceAll(" trace.*", " trace");
        due("reset()", x.reset(), 1);
        due("the configuration", Bench.configuration(x), "a v=0 w=3");
        promise(53, "The coverage stays, no visit is counted, and the trace becomes empty.");
        due("the standing", standing(x), "state 0 values 0 3 invariants 1h " + counts);
        due("visitsOf(0)", x.visitsOf(0), 3);
        due("traceEvent(0)", x.traceEvent(0), NONE);
        due("traceTransition(0)", x.traceTransition(0), NONE);
        due("acceptedCount()", x.acceptedCount(), 3);
        promise(53, "This is a change.");
        due("undo()", x.undo(), 1);
        due("the configuration after undo", Bench.configuration(x), "b v=2 w=9");
        due("traceLength() after undo", x.traceLength(), 3);
        due("traceEvent(2) after undo", x.traceEvent(2), 0);
        promise(53, "Returns the state before that.");
        due("reset() in b", x.reset(), 1);
        due("reset() in a", x.reset(), 0);
        // The invariants that were added stay.
        x.addAlways(0, ContractMachine.BELOW, 2);
        x.reset();
        due("invariantCount()", x.invariantCount(), 2);
        x.fire(0);
        due("fire(0) against the added one", x.fire(0), INVARIANT_BROKEN);
    }

    private static void clearCoverage() {
        promise(54, "Clears the coverage: all counts of section 6 become 0 and the trace becomes empty,"
            + " but the current state counts as visited once.");
        ContractMachine x = Bench.machine("state a;state b;event e;event f;event g;event h;event i;var v 8;on a e goto a do v add 1;"
            + "on b f goto a;on a g goto a when v below 9;on a h goto b;inside b v below 9;");
        Bench.script(x, "fire e;fire e;fire f;fire g;fire h;set v 1;fire h;fire f;fire h;fire i;");
        due("rejectedWith", "" + x.rejectedWith(1) + x.rejectedWith(2) + x.rejectedWith(3) + x.rejectedWith(4), "2111");
        due("clearCoverage()", x.clearCoverage(), 4);
        due("the standing", standing(x), "state 1 values 1 invariants 1h visits 0 1 taken 0 0 0 0 counts 0 0 0 0 0 0 trace");
        x.fire(1);
        due("the standing after fire", standing(x), "state 0 values 1 invariants 1h visits 1 1 taken 0 1 0 0 counts 1 0 0 0 0 0 trace 1/1");
        promise(54, "This is a change.");
        due("undo() of fire", x.undo(), 2);
        due("undo()", x.undo(), 1);
        due("acceptedCount() after undo", x.acceptedCount(), 4);
        due("rejectedCount() after undo", x.rejectedCount(), 5);
        due("traceLength() after undo", x.traceLength(), 4);
        promise(54, "Returns the number of accepted events before that.");
        due("clearCoverage()", x.clearCoverage(), 4);
        due("clearCoverage() again", x.clearCoverage(), 0);
        due("clearCoverage() of a new object", new ContractMachine().clearCoverage(), 0);
    }

    private static void addAlways() {
        promise(55, "Adds an invariant that holds always.");
        ContractMachine x = Bench.machine(COUNTER);
        due("addAlways(0, ATMOST, 1)", x.addAlways(0, ContractMachine.ATMOST, 1), 1);
        due("stateOfInvariant(1)", x.stateOfInvariant(1), NONE);
        due("fire(0) within it", x.fire(0), ACCEPTED);
        due("fire(0) beyond it", x.fire(0), INVARIANT_BROKEN);
        due("brokenInvariant(0)", x.brokenInvariant(0), 1);
        dueState("setValue(0, 2)", () -> x.setValue(0, 2));
        promise(55, "This is a change.");
        x.undo();
        x.undo();
        due("undo()", x.undo(), 0);
        due("invariantCount()", x.invariantCount(), 1);
        due("setValue(0, 2) after undo", x.setValue(0, 2), 0);
        promise(55, "- operator: BELOW, ATMOST, EQUALS, DIFFERS, ATLEAST or ABOVE - constant: 0 to 9");
        ContractMachine y = Bench.machine("state a;event e;var v 0;var w 9;");
        int[][] good = {{0, 0, 9}, {0, 1, 0}, {0, 2, 0}, {1, 2, 9}, {0, 3, 9}, {1, 3, 0}, {1, 4, 9}, {0, 4, 0}};
        for (int i = 0; i < good.length; i++) {
            due("addAlways, the " + i + "th", y.addAlways(good[i][0], good[i][1], good[i][2]), i);
        }
        promise(55, "Returns the index of the invariant.");
        due("addAlways(1, ABOVE, 0)", y.addAlways(1, ContractMachine.ABOVE, 0), 8);
        due("addAlways to the first machine", new ContractMachine().addAlways(0, ContractMachine.BELOW, 1), 2);
        due("invariantCount()", y.invariantCount(), 9);
        promise(55, "Throws IndexOutOfBoundsException if there is no such variable");
        for (int wrong : new int[] {-1, 2, 3, MIN, MAX}) {
            dueIndex("addAlways(" + wrong + ", ATLEAST, 0)", () -> y.addAlways(wrong, 4, 0));
        }
        promise(55, "Throws IllegalArgumentException if operator or constant is out of range");
        for (int wrong : new int[] {-1, 6, MIN, MAX}) {
            dueArgument("addAlways(0, " + wrong + ", 5)", () -> y.addAlways(0, wrong, 5));
        }
        for (int wrong : new int[] {-1, 10, MIN, MAX}) {
            dueArgument("addAlways(0, DIFFERS, " + wrong + ")", () -> y.addAlways(0, 3, wrong));
        }
        refusedInvariants(y);
    }

    private static void refusedInvariants(ContractMachine withNine) {
        promise(55, "Throws IllegalStateException if there are 12 invariants, or the current or the initial configuration breaks the new invariant");
        for (int i = 9; i < 12; i++) {
            due("addAlways, the " + i + "th", withNine.addAlways(0, ContractMachine.BELOW, 9), i);
        }
        dueState("addAlways with 12", () -> withNine.addAlways(0, ContractMachine.BELOW, 9));
        withNine.undo();
        due("addAlways with 11 after undo", withNine.addAlways(1, ContractMachine.ABOVE, 8), 11);
        due("comparisonHolds(11)", withNine.comparisonHolds(11), true);
        ContractMachine x = Bench.machine(WHOLE + times(12, "inside b v below 9;"));
        dueState("addAlways with 12 from the text", () -> x.addAlways(0, ContractMachine.BELOW, 9));
        ContractMachine y = Bench.machine(COUNTER);
        y.setValue(0, 5);
        dueState("the current configuration breaks it", () -> y.addAlways(0, ContractMachine.BELOW, 5));
        dueState("the initial configuration breaks it", () -> y.addAlways(0, ContractMachine.ABOVE, 0));
        dueState("both break it", () -> y.addAlways(0, ContractMachine.EQUALS, 3));
        due("neither breaks it", y.addAlways(0, ContractMachine.BELOW, 6), 1);
        due("neither breaks it, though others in between do", y.addAlways(0, ContractMachine.DIFFERS, 3), 2);
        y.setValue(0, 0);
        dueState("both, which are the same, break it", () -> y.addAlways(0, ContractMachine.DIFFERS, 0));
        // An invariant inside another state does not bind, one that holds always does.
        ContractMachine z = Bench.machine(WHOLE + "on a e goto b;inside b v below 2;");
        due("setValue(0, 9) in a", z.setValue(0, 9), 1);
        dueState("addAlways of the same comparison", () -> z.addAlways(0, ContractMachine.BELOW, 2));
    }

    // ---- promise 56

    private static void undo() {
        promise(56, "Undoes the latest change that has not been undone.");
        for (int changes = 1; changes <= 8; changes++) {
            ContractMachine x = changed(changes);
            for (int left = changes - 1; left >= 0; left--) {
                due("undo() after " + changes, x.undo(), left);
                due("the standing before change " + left, standing(x), standing(changed(left)));
            }
            ContractMachine y = changed(changes);
            y.undo();
            due("everything before change " + (changes - 1), everything(y), everything(changed(changes - 1)));
        }
        ContractMachine x = changed(0);
        String before = everything(x);
        x.fire(0);
        x.undo();
        x.fire(1);
        due("undo() behind an undone one", x.undo(), 0);
        due("everything in the end", everything(x), before);
        undoOfTheFullest();
        promise(56, "The input buffer, the reported error, the output and the saved state stay as they are.");
        ContractMachine y = Bench.machine(COUNTER);
        y.fire(0);
        y.saveState();
        y.fire(1);
        y.writeConfiguration();
        Bench.script(y, " bad");
        Bench.feed(y, "fire f;");
        y.undo();
        y.undo();
        due("errorCode()", y.errorCode(), SYNTAX);
        due("errorOffset()", y.errorOffset(), 1);
        due("the output", Bench.output(y), "b v=1 w=3");
        due("truncateInput(8)", y.truncateInput(8), false);
        due("truncateInput(7)", y.truncateInput(7), true);
        due("runScript() of the buffer", y.runScript(), 1);
        due("restoreState()", y.restoreState(), 0);
        due("the configuration", Bench.configuration(y), "a v=1 w=3");
        promise(56, "Returns the number of changes that can still be undone.");
        ContractMachine z = Bench.machine(COUNTER);
        for (int i = 0; i < 30; i++) {
            z.fire(i % 2);
            if (i % 2 == 0) {
                z.fire(0);
            }
            due("undo() after " + (i + 1), z.undo(), Math.min(7, i / 2 + 1));
        }
        promise(56, "Throws NoSuchElementException if there is no change to undo");
        dueElement("undo() of a new object", () -> new ContractMachine().undo());
        while (z.undo() > 0) {
            due("isConsistent()", z.isConsistent(), true);
        }
        dueElement("undo() after the last", () -> z.undo());
        dueElement("undo() again", () -> z.undo());
        z.reset();
        due("undo() of a change after that", z.undo(), 0);
    }

    /** A machine after the first of eight changes of different kinds. */
    private static ContractMachine changed(int changes) {
        ContractMachine x = Bench.machine(COUNTER);
        Call[] all = {() -> x.fire(0), () -> x.fire(1), () -> x.setValue(1, 9), () -> x.addAlways(1, ContractMachine.ABOVE, 2),
            () -> Bench.script(x, "fire f;fire e;"), () -> x.clearCoverage(), () -> x.fire(0), () -> x.reset()};
        for (int i = 0; i < changes; i++) {
            all[i].answer();
        }
        return x;
    }

    /** The last of each row comes back too: invariant, transition, state, verdict and event of the trace. */
    private static void undoOfTheFullest() {
        ContractMachine x = fullest();
        for (int i = 0; i < 9; i++) {
            x.fire(7);
        }
        x.fire(6);
        x.undo();
        for (int i = 0; i < 12; i++) {
            x.fire(7);
        }
        String before = standing(x);
        x.clearCoverage();
        x.reset();
        x.setValue(2, 1);
        x.fire(7);
        due("rejectedWith(INVARIANT_BROKEN)", x.rejectedWith(INVARIANT_BROKEN), 1);
        x.clearCoverage();
        due("undo() of clearCoverage", x.undo(), 7);
        due("rejectedWith(INVARIANT_BROKEN) after undo", x.rejectedWith(INVARIANT_BROKEN), 1);
        due("visitsOf(9) after undo", x.visitsOf(9), 1);
        x.undo();
        x.undo();
        x.undo();
        due("undo() of the first of them", x.undo(), 3);
        due("the standing before them", standing(x), before);
        due("brokenInvariant(7), none", x.brokenInvariant(7), NONE);
        x.setValue(2, 2);
        dueState("setValue(2, 1), which the last invariant forbids", () -> x.setValue(2, 1));
        due("traceTransition(19)", x.traceTransition(19), 23);
        due("timesTaken(23)", x.timesTaken(23), 20);
        due("visitsOf(9)", x.visitsOf(9), 21);
    }

    // ---- promises 57 to 60

    private static void output() {
        promise(57, "Writes the current configuration to the output, replacing the former output: the name of the current state and,"
            + " for each variable, a space (byte 32), its name, an equals sign (byte 61) and its value.");
        ContractMachine x = Bench.machine("state a;state bcdefg;event e;var uuuuuu 0;var v 9;var wwwwww 5;on a e goto bcdefg do uuuuuu set 9;");
        x.writeConfiguration();
        due("the output", Bench.output(x), "a uuuuuu=0 v=9 wwwwww=5");
        due("byte 1", x.outputByte(1), 32);
        due("byte 8", x.outputByte(8), 61);
        due("byte 9", x.outputByte(9), 48);
        x.fire(0);
        due("the output before the next call", Bench.output(x), "a uuuuuu=0 v=9 wwwwww=5");
        x.writeConfiguration();
        due("the output, replaced", Bench.output(x), "bcdefg uuuuuu=9 v=9 wwwwww=5");
        x.undo();
        x.writeConfiguration();
        due("the output, replaced by a shorter one", Bench.output(x), "a uuuuuu=0 v=9 wwwwww=5");
        promise(57, "Returns the number of bytes written.");
        due("a new object", new ContractMachine().writeConfiguration(), 19);
        due("the shortest", Bench.machine("state a;event e;var v 9;").writeConfiguration(), 5);
        ContractMachine y = Bench.machine("state abcdef;event e;var ghijkl 9;var mnopqr 8;var stuvwx 7;");
        due("the longest", y.writeConfiguration(), 33);
        due("the longest output", Bench.output(y), "abcdef ghijkl=9 mnopqr=8 stuvwx=7");
        due("the same again", y.writeConfiguration(), 33);
        promise(58, "Returns a byte of the output. - index: index of the byte, from 0");
        due("outputByte(0)", y.outputByte(0), 'a');
        due("outputByte(32), the last", y.outputByte(32), '7');
        promise(58, "Returns the byte, or NONE if there is no such byte.");
        for (int index : new int[] {-1, 33, 34, 40, MIN, MAX}) {
            due("outputByte(" + index + ")", y.outputByte(index), NONE);
        }
        due("outputByte(0) of an empty output", new ContractMachine().outputByte(0), NONE);
        Bench.feed(y, "state a;event e;var v 9;");
        y.loadMachine();
        due("the output after loadMachine", Bench.output(y), "abcdef ghijkl=9 mnopqr=8 stuvwx=7");
        y.writeConfiguration();
        due("outputByte(4), the last of a shorter one", y.outputByte(4), '9');
        due("outputByte(5) behind it", y.outputByte(5), NONE);
        due("outputByte(32) behind it", y.outputByte(32), NONE);
    }

    private static void savedState() {
        promise(59, "Saves the current configuration, the invariants, the coverage and the trace, replacing an earlier saved state.");
        ContractMachine x = Bench.machine(COUNTER);
        Bench.script(x, "fire e;fire f;fire e;set w 8;");
        x.addAlways(0, ContractMachine.BELOW, 5);
        String saved = standing(x);
        x.saveState();
        Bench.script(x, "clear;fire f;fire e;fire e;set w 1;");
        x.addAlways(1, ContractMachine.BELOW, 4);
        due("the standing is another", standing(x).equals(saved), false);
        x.restoreState();
        due("the standing", standing(x), saved);
        dueState("setValue(0, 5), which the saved invariant forbids", () -> x.setValue(0, 5));
        due("setValue(1, 9), which the later one would forbid", x.setValue(1, 9), 8);
        x.fire(1);
        saved = standing(x);
        x.saveState();
        x.reset();
        x.restoreState();
        due("the later saved state", standing(x), saved);
        promise(59, "Returns the current state.");
        due("saveState() in a", x.saveState(), 0);
        x.fire(1);
        due("saveState() in b", x.saveState(), 1);
        due("undo(): saveState is no change", x.undo(), 0);
        // A full trace and the last of each row are saved too.
        ContractMachine y = fullest();
        Bench.script(y, "set c 1;fire h;set c 2;" + times(22, "fire h;"));
        saved = standing(y);
        y.saveState();
        Bench.script(y, "clear;reset;fire b;");
        y.restoreState();
        due("the standing of the fullest", standing(y), saved);
        due("rejectedWith(INVARIANT_BROKEN)", y.rejectedWith(INVARIANT_BROKEN), 1);
        due("timesTaken(23)", y.timesTaken(23), 21);
        dueState("setValue(2, 1), which the last invariant forbids", () -> y.setValue(2, 1));
        due("traceEvent(19)", y.traceEvent(19), 7);
    }

    private static void restoring() {
        promise(60, "Restores the saved state, which remains saved.");
        ContractMachine x = Bench.machine(COUNTER);
        x.fire(0);
        x.saveState();
        String saved = standing(x);
        due("stepsTo(1)", x.stepsTo(1), 1);
        for (int i = 0; i < 3; i++) {
            Bench.script(x, "fire e;clear;fire f;set w 0;");
            due("stepsTo(1) in it, the " + i + "th", x.stepsTo(1), 0);
            x.restoreState();
            due("the standing, the " + i + "th", standing(x), saved);
            due("stepsTo(1), the " + i + "th", x.stepsTo(1), 1);
        }
        promise(60, "Nothing can be undone after that.");
        x.fire(0);
        x.restoreState();
        dueElement("undo()", () -> x.undo());
        x.fire(0);
        due("undo() of a change after it", x.undo(), 0);
        due("the standing after undo", standing(x), saved);
        promise(60, "Returns the current state after that.");
        x.fire(1);
        due("restoreState() to a", x.restoreState(), 0);
        x.fire(1);
        x.saveState();
        x.reset();
        due("restoreState() to b", x.restoreState(), 1);
        promise(60, "Throws NoSuchElementException if no state is saved");
        dueElement("restoreState() of a new object", () -> new ContractMachine().restoreState());
        Bench.feed(x, "bad");
        x.loadMachine();
        due("restoreState() after a text with an error", x.restoreState(), 1);
        Bench.feed(x, COUNTER);
        x.loadMachine();
        dueElement("restoreState() after loadMachine", () -> x.restoreState());
        x.saveState();
        due("restoreState() after saveState", x.restoreState(), 0);
        // The rest of the object is no part of the saved state.
        ContractMachine y = Bench.machine(COUNTER);
        y.saveState();
        y.fire(1);
        y.writeConfiguration();
        Bench.script(y, " bad");
        Bench.feed(y, "reset;");
        y.restoreState();
        due("the output", Bench.output(y), "b v=0 w=3");
        due("errorOffset()", y.errorOffset(), 1);
        due("truncateInput(6)", y.truncateInput(6), true);
        due("truncateInput(7)", y.truncateInput(7), false);
    }

    private ChangeSentences() {
    }
}
