/** Promises 51 to 60: changes, undo, the output and the saved state. */
final class ChangeTest {
    private static final int NONE = ContractMachine.NONE;

    public static void main(String[] args) {
        fire();
        setValue();
        reset();
        clearCoverage();
        addAlways();
        undo();
        undoLeavesWhatItMust();
        output();
        savedState();
        throwingLeavesAll();
        Bench.end("ChangeTest");
    }

    private static void fire() {
        ContractMachine x = new ContractMachine();
        Bench.due(51, "fire(0)", x.fire(0), ContractMachine.ACCEPTED);
        Bench.dueText(51, "the configuration", Bench.configuration(x), "busy coins=1 cups=3");
        Bench.due(51, "fire(1)", x.fire(1), ContractMachine.GUARD_FAILED);
        Bench.due(51, "fire(2)", x.fire(2), ContractMachine.NO_TRANSITION);
        Bench.dueText(51, "the configuration after rejections", Bench.configuration(x), "busy coins=1 cups=3");
        Bench.due(51, "undo() of a rejected event", x.undo(), 2);
        Bench.due(51, "rejectedCount() after it", x.rejectedCount(), 1);
        ContractMachine y = Bench.machine("state a;event e;event f;event g;var v 0;var w 9;"
            + "on a e goto a do v sub 1;on a f goto a do w set 0;on a g goto a do v add 9;always w atmost 9;");
        Bench.due(51, "fire(0) below 0", y.fire(0), ContractMachine.OUT_OF_BOUNDS);
        Bench.due(51, "fire(2) to 9", y.fire(2), ContractMachine.ACCEPTED);
        Bench.due(51, "fire(2) above 9", y.fire(2), ContractMachine.OUT_OF_BOUNDS);
        Bench.due(51, "fire(1)", y.fire(1), ContractMachine.ACCEPTED);
        Bench.dueText(51, "the configuration of y", Bench.configuration(y), "a v=9 w=0");
        for (int wrong : new int[] {-1, 3, 8, Integer.MAX_VALUE}) {
            Bench.dueIndex(51, "fire(" + wrong + ")", () -> x.fire(wrong));
        }
    }

    private static void setValue() {
        ContractMachine x = new ContractMachine();
        Bench.due(52, "setValue(1, 9)", x.setValue(1, 9), 3);
        Bench.due(52, "setValue(1, 1)", x.setValue(1, 1), 9);
        Bench.due(52, "valueOf(1)", x.valueOf(1), 1);
        Bench.due(52, "valueOf(0)", x.valueOf(0), 0);
        Bench.dueState(52, "setValue(1, 0) inside idle", () -> x.setValue(1, 0));
        Bench.dueState(52, "setValue(0, 6)", () -> x.setValue(0, 6));
        Bench.dueArgument(52, "setValue(0, 10)", () -> x.setValue(0, 10));
        Bench.dueArgument(52, "setValue(0, -1)", () -> x.setValue(0, -1));
        Bench.dueArgument(52, "setValue(1, MIN)", () -> x.setValue(1, Integer.MIN_VALUE));
        Bench.dueIndex(52, "setValue(2, 10)", () -> x.setValue(2, 10));
        Bench.dueIndex(52, "setValue(-1, 0)", () -> x.setValue(-1, 0));
        Bench.due(52, "valueOf(1) after throws", x.valueOf(1), 1);
        x.fire(0);
        Bench.due(52, "setValue(1, 0) inside busy", x.setValue(1, 0), 1);
        Bench.due(52, "setValue to the same", x.setValue(1, 0), 0);
        Bench.due(52, "undo() of setValue to the same", x.undo(), 4);
        Bench.due(52, "the trace stays", x.traceLength(), 1);
        Bench.due(52, "no visit is counted", x.visitsOf(1), 1);
    }

    private static void reset() {
        ContractMachine x = new ContractMachine();
        x.fire(0);
        x.setValue(1, 7);
        Bench.due(53, "reset()", x.reset(), 1);
        Bench.dueText(53, "the configuration", Bench.configuration(x), "idle coins=0 cups=3");
        Bench.due(53, "visitsOf(0)", x.visitsOf(0), 1);
        Bench.due(53, "acceptedCount()", x.acceptedCount(), 1);
        Bench.due(53, "timesTaken(0)", x.timesTaken(0), 1);
        Bench.due(53, "traceLength()", x.traceLength(), 0);
        Bench.due(53, "traceEvent(0)", x.traceEvent(0), NONE);
        Bench.due(53, "reset() again", x.reset(), 0);
        Bench.due(53, "undo()", x.undo(), 3);
        Bench.due(53, "undo()", x.undo(), 2);
        Bench.due(53, "traceLength() after undo", x.traceLength(), 1);
        Bench.due(53, "traceEvent(0) after undo", x.traceEvent(0), 0);
    }

    private static void clearCoverage() {
        ContractMachine x = new ContractMachine();
        Bench.script(x, "fire coin;fire push;fire coin;fire take;");
        Bench.due(54, "clearCoverage()", x.clearCoverage(), 2);
        Bench.due(54, "all counts", x.acceptedCount() + x.rejectedCount() + x.timesTaken(0) + x.timesTaken(2)
            + x.rejectedWith(1) + x.rejectedWith(2) + x.traceLength() + x.visitsOf(0) + x.visitsOf(2), 0);
        Bench.due(54, "visitsOf(1)", x.visitsOf(1), 1);
        Bench.dueText(54, "the configuration", Bench.configuration(x), "busy coins=2 cups=3");
        Bench.due(54, "clearCoverage() again", x.clearCoverage(), 0);
        Bench.due(54, "undo()", x.undo(), 2);
        Bench.due(54, "undo()", x.undo(), 1);
        Bench.due(54, "acceptedCount() after undo", x.acceptedCount(), 2);
        Bench.due(54, "rejectedWith(1) after undo", x.rejectedWith(1), 1);
    }

    private static void addAlways() {
        ContractMachine x = new ContractMachine();
        Bench.due(55, "addAlways(1, ATLEAST, 1)", x.addAlways(1, ContractMachine.ATLEAST, 1), 2);
        Bench.due(55, "stateOfInvariant(2)", x.stateOfInvariant(2), NONE);
        Bench.due(55, "invariantCount()", x.invariantCount(), 3);
        x.fire(0);
        Bench.dueState(55, "the current configuration breaks it", () -> x.addAlways(0, ContractMachine.EQUALS, 0));
        Bench.dueState(55, "the initial configuration breaks it", () -> x.addAlways(0, ContractMachine.ABOVE, 0));
        Bench.dueState(55, "setValue(1, 0) is now broken", () -> x.setValue(1, 0));
        Bench.dueIndex(55, "addAlways(2, 6, 10)", () -> x.addAlways(2, 6, 10));
        Bench.dueIndex(55, "addAlways(-1, 0, 0)", () -> x.addAlways(-1, 0, 0));
        Bench.dueArgument(55, "addAlways(0, 6, 0)", () -> x.addAlways(0, 6, 0));
        Bench.dueArgument(55, "addAlways(0, -1, 0)", () -> x.addAlways(0, -1, 0));
        Bench.dueArgument(55, "addAlways(0, BELOW, 10)", () -> x.addAlways(0, 0, 10));
        Bench.dueArgument(55, "addAlways(0, BELOW, -1)", () -> x.addAlways(0, 0, -1));
        for (int i = 3; i < 12; i++) {
            Bench.due(55, "addAlways, the " + i + "th", x.addAlways(0, ContractMachine.ATMOST, 9), i);
        }
        Bench.dueState(55, "a 13th", () -> x.addAlways(0, ContractMachine.ATMOST, 9));
        Bench.dueArgument(55, "a 13th with a wrong operator", () -> x.addAlways(0, 6, 9));
        Bench.due(55, "undo()", x.undo(), 7);
        Bench.due(55, "addAlways after undo", x.addAlways(0, ContractMachine.DIFFERS, 2), 11);
        Bench.due(55, "fire(0) breaks it", x.verdictOf(0), ContractMachine.INVARIANT_BROKEN);
        Bench.due(55, "brokenInvariant(0)", x.brokenInvariant(0), 11);
        ContractMachine y = Bench.machine("state a;state b;event e;var v 1;on a e goto b do v set 3;");
        y.fire(0);
        Bench.dueState(55, "the initial configuration alone breaks it", () -> y.addAlways(0, ContractMachine.ABOVE, 1));
        Bench.due(55, "one that both keep", y.addAlways(0, ContractMachine.DIFFERS, 2), 0);
    }

    private static void undo() {
        ContractMachine x = Bench.machine("state a;event e;var v 0;on a e goto a do v add 1;");
        for (int i = 0; i < 9; i++) {
            x.fire(0);
        }
        for (int i = 7; i >= 0; i--) {
            Bench.due(56, "undo()", x.undo(), i);
            Bench.due(56, "valueOf(0)", x.valueOf(0), i + 1);
            Bench.due(56, "acceptedCount()", x.acceptedCount(), i + 1);
            Bench.due(56, "traceLength()", x.traceLength(), i + 1);
        }
        Bench.dueElement(56, "undo() of a ninth change", () -> x.undo());
        Bench.due(56, "valueOf(0) after it threw", x.valueOf(0), 1);
        x.fire(0);
        x.setValue(0, 7);
        x.undo();
        x.reset();
        Bench.due(56, "undo() of reset", x.undo(), 1);
        Bench.due(56, "valueOf(0)", x.valueOf(0), 2);
        Bench.due(56, "undo() of fire", x.undo(), 0);
        Bench.due(56, "valueOf(0)", x.valueOf(0), 1);
    }

    private static void undoLeavesWhatItMust() {
        ContractMachine x = new ContractMachine();
        x.fire(0);
        x.saveState();
        x.fire(0);
        x.writeConfiguration();
        Bench.script(x, "x");
        Bench.feed(x, "reset;");
        x.undo();
        x.undo();
        Bench.due(56, "errorCode()", x.errorCode(), ContractMachine.SYNTAX);
        Bench.due(56, "errorOffset()", x.errorOffset(), 0);
        Bench.dueText(56, "the output", Bench.output(x), "busy coins=2 cups=3");
        Bench.due(56, "the buffer", x.truncateInput(6), true);
        Bench.due(56, "the saved state", x.restoreState(), 1);
        Bench.due(56, "valueOf(0)", x.valueOf(0), 1);
    }

    private static void output() {
        ContractMachine x = new ContractMachine();
        Bench.due(58, "outputByte(0) before", x.outputByte(0), NONE);
        Bench.due(57, "writeConfiguration()", x.writeConfiguration(), 19);
        Bench.dueText(57, "the output", Bench.output(x), "idle coins=0 cups=3");
        Bench.due(58, "outputByte(0)", x.outputByte(0), 'i');
        Bench.due(58, "outputByte(4)", x.outputByte(4), 32);
        Bench.due(58, "outputByte(10)", x.outputByte(10), 61);
        Bench.due(58, "outputByte(18)", x.outputByte(18), '3');
        Bench.due(58, "outputByte(19)", x.outputByte(19), NONE);
        Bench.due(58, "outputByte(-1)", x.outputByte(-1), NONE);
        Bench.due(58, "outputByte(MAX)", x.outputByte(Integer.MAX_VALUE), NONE);
        x.fire(0);
        Bench.due(58, "outputByte(0) after fire", x.outputByte(0), 'i');
        Bench.feed(x, "state abcdef;event e;var ghijkl 9;var mnopqr 8;var stuvwx 7;");
        x.loadMachine();
        Bench.dueText(58, "the output after loadMachine", Bench.output(x), "idle coins=0 cups=3");
        Bench.due(57, "writeConfiguration(), the longest", x.writeConfiguration(), 33);
        Bench.dueText(57, "the longest output", Bench.output(x), "abcdef ghijkl=9 mnopqr=8 stuvwx=7");
        Bench.feed(x, "state a;event e;var v 1;");
        x.loadMachine();
        Bench.due(57, "writeConfiguration(), a shorter one", x.writeConfiguration(), 5);
        Bench.due(58, "outputByte(5)", x.outputByte(5), NONE);
    }

    private static void savedState() {
        ContractMachine x = new ContractMachine();
        x.fire(0);
        x.fire(1);
        x.addAlways(1, ContractMachine.ABOVE, 0);
        Bench.due(59, "saveState()", x.saveState(), 1);
        Bench.due(59, "saveState() is no change", x.undo(), 2);
        x.addAlways(1, ContractMachine.BELOW, 8);
        x.fire(0);
        x.clearCoverage();
        x.writeConfiguration();
        Bench.due(60, "restoreState()", x.restoreState(), 1);
        Bench.dueText(60, "the output", Bench.output(x), "busy coins=2 cups=3");
        Bench.dueText(60, "the configuration", Bench.configuration(x), "busy coins=1 cups=3");
        Bench.due(60, "invariantCount()", x.invariantCount(), 3);
        Bench.dueState(60, "the saved invariant is there", () -> x.setValue(1, 0));
        Bench.due(60, "the later invariant is not", x.setValue(1, 9), 3);
        Bench.due(60, "acceptedCount()", x.acceptedCount(), 1);
        Bench.due(60, "rejectedWith(2)", x.rejectedWith(2), 1);
        Bench.due(60, "traceTransition(0)", x.traceTransition(0), 0);
        Bench.due(60, "restoreState() again", x.restoreState(), 1);
        Bench.due(60, "valueOf(1)", x.valueOf(1), 3);
        Bench.dueElement(60, "undo() after restoreState", () -> x.undo());
        x.reset();
        Bench.due(59, "saveState() replaces", x.saveState(), 0);
        x.fire(0);
        Bench.due(60, "restoreState() of the later one", x.restoreState(), 0);
        Bench.due(60, "valueOf(0) of the later one", x.valueOf(0), 0);
        ContractMachine y = new ContractMachine();
        y.fire(0);
        Bench.dueElement(60, "restoreState() without a saved state", () -> y.restoreState());
        Bench.due(60, "undo() after it threw", y.undo(), 0);
    }

    /** A call that throws is no change, and changes nothing. */
    private static void throwingLeavesAll() {
        ContractMachine x = new ContractMachine();
        x.fire(0);
        Bench.dueIndex(51, "fire(9)", () -> x.fire(9));
        Bench.dueState(52, "setValue(0, 9)", () -> x.setValue(0, 9));
        Bench.dueArgument(52, "setValue(0, 99)", () -> x.setValue(0, 99));
        Bench.dueState(55, "addAlways(0, ABOVE, 8)", () -> x.addAlways(0, ContractMachine.ABOVE, 8));
        Bench.due(51, "rejectedCount()", x.rejectedCount(), 0);
        Bench.due(55, "invariantCount()", x.invariantCount(), 2);
        Bench.dueText(52, "the configuration", Bench.configuration(x), "busy coins=1 cups=3");
        Bench.due(56, "undo()", x.undo(), 0);
    }

    private ChangeTest() {
    }
}
