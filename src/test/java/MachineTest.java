/** Promises 1 and 8 to 29: what the machine is, and its verdicts. */
final class MachineTest {
    private static final int NONE = ContractMachine.NONE;

    public static void main(String[] args) {
        aNewObject();
        counts();
        names();
        values();
        transitions();
        guards();
        invariants();
        operators();
        verdicts();
        deadlock();
        theFullest();
        Bench.end("MachineTest");
    }

    private static void aNewObject() {
        ContractMachine x = new ContractMachine();
        Bench.due(1, "outputByte(0)", x.outputByte(0), NONE);
        Bench.due(1, "truncateInput(1) of an empty buffer", x.truncateInput(1), false);
        Bench.due(6, "errorCode() of a new object", x.errorCode(), ContractMachine.NO_ERROR);
        Bench.due(7, "errorOffset() of a new object", x.errorOffset(), NONE);
        Bench.dueText(1, "the configuration", Bench.configuration(x), "idle coins=0 cups=3");
        Bench.due(1, "visitsOf(0)", x.visitsOf(0), 1);
        Bench.due(1, "traceLength()", x.traceLength(), 0);
        Bench.dueElement(1, "undo()", () -> new ContractMachine().undo());
        Bench.dueElement(1, "restoreState()", () -> new ContractMachine().restoreState());
        ContractMachine y = Bench.machine(Bench.FIRST_SETUP);
        for (int t = 0; t < 6; t++) {
            Bench.due(1, "sourceOf(" + t + ")", x.sourceOf(t), y.sourceOf(t));
            Bench.due(1, "eventOf(" + t + ")", x.eventOf(t), y.eventOf(t));
            Bench.due(1, "targetOf(" + t + ")", x.targetOf(t), y.targetOf(t));
            Bench.due(1, "hasGuard(" + t + ")", x.hasGuard(t), t == 1 || t == 3);
        }
        Bench.due(1, "reachableCount()", x.reachableCount(), 27);
    }

    private static void counts() {
        ContractMachine x = new ContractMachine();
        Bench.due(8, "stateCount()", x.stateCount(), 3);
        Bench.due(9, "eventCount()", x.eventCount(), 3);
        Bench.due(10, "variableCount()", x.variableCount(), 2);
        Bench.due(11, "transitionCount()", x.transitionCount(), 6);
        Bench.due(12, "invariantCount()", x.invariantCount(), 2);
        ContractMachine y = Bench.machine("state a;event e;event f;var v 1;var w 2;var x 3;");
        Bench.due(8, "stateCount() of another", y.stateCount(), 1);
        Bench.due(9, "eventCount() of another", y.eventCount(), 2);
        Bench.due(10, "variableCount() of another", y.variableCount(), 3);
        Bench.due(11, "transitionCount() of another", y.transitionCount(), 0);
        Bench.due(12, "invariantCount() of another", y.invariantCount(), 0);
        x.addAlways(0, ContractMachine.BELOW, 9);
        Bench.due(12, "invariantCount() after addAlways", x.invariantCount(), 3);
    }

    private static void names() {
        ContractMachine x = Bench.machine("state a;state abcdef;event zz;event q;var m 0;var mnopqr 1;");
        Bench.due(13, "stateNameByte(0, 0)", x.stateNameByte(0, 0), 'a');
        Bench.due(13, "stateNameByte(0, 1)", x.stateNameByte(0, 1), NONE);
        Bench.due(13, "stateNameByte(1, 5)", x.stateNameByte(1, 5), 'f');
        Bench.due(13, "stateNameByte(1, 6)", x.stateNameByte(1, 6), NONE);
        Bench.due(13, "stateNameByte(1, -1)", x.stateNameByte(1, -1), NONE);
        Bench.due(13, "stateNameByte(1, MAX)", x.stateNameByte(1, Integer.MAX_VALUE), NONE);
        Bench.due(14, "eventNameByte(0, 1)", x.eventNameByte(0, 1), 'z');
        Bench.due(14, "eventNameByte(1, 0)", x.eventNameByte(1, 0), 'q');
        Bench.due(14, "eventNameByte(1, 1)", x.eventNameByte(1, 1), NONE);
        Bench.due(14, "eventNameByte(1, MIN)", x.eventNameByte(1, Integer.MIN_VALUE), NONE);
        Bench.due(15, "variableNameByte(1, 3)", x.variableNameByte(1, 3), 'p');
        Bench.due(15, "variableNameByte(0, 0)", x.variableNameByte(0, 0), 'm');
        Bench.due(15, "variableNameByte(0, 1)", x.variableNameByte(0, 1), NONE);
        Bench.due(15, "variableNameByte(0, -1)", x.variableNameByte(0, -1), NONE);
        for (int wrong : new int[] {-1, 2, Integer.MIN_VALUE, Integer.MAX_VALUE}) {
            Bench.dueIndex(13, "stateNameByte(" + wrong + ", 0)", () -> x.stateNameByte(wrong, 0));
            Bench.dueIndex(14, "eventNameByte(" + wrong + ", 0)", () -> x.eventNameByte(wrong, 0));
            Bench.dueIndex(15, "variableNameByte(" + wrong + ", 0)", () -> x.variableNameByte(wrong, 0));
        }
    }

    private static void values() {
        ContractMachine x = new ContractMachine();
        Bench.due(16, "currentState()", x.currentState(), 0);
        Bench.due(17, "valueOf(1)", x.valueOf(1), 3);
        x.fire(0);
        Bench.due(16, "currentState() after fire(0)", x.currentState(), 1);
        Bench.due(17, "valueOf(0) after fire(0)", x.valueOf(0), 1);
        Bench.due(18, "initialValueOf(0) after fire(0)", x.initialValueOf(0), 0);
        Bench.due(18, "initialValueOf(1)", x.initialValueOf(1), 3);
        for (int wrong : new int[] {-1, 2, 3, Integer.MIN_VALUE}) {
            Bench.dueIndex(17, "valueOf(" + wrong + ")", () -> x.valueOf(wrong));
            Bench.dueIndex(18, "initialValueOf(" + wrong + ")", () -> x.initialValueOf(wrong));
        }
    }

    private static void transitions() {
        ContractMachine x = new ContractMachine();
        int[] sources = {0, 1, 1, 1, 2, 0};
        int[] events = {0, 0, 0, 1, 1, 2};
        int[] targets = {1, 2, 1, 0, 0, 0};
        for (int i = 0; i < 6; i++) {
            Bench.due(19, "sourceOf(" + i + ")", x.sourceOf(i), sources[i]);
            Bench.due(20, "eventOf(" + i + ")", x.eventOf(i), events[i]);
            Bench.due(21, "targetOf(" + i + ")", x.targetOf(i), targets[i]);
        }
        for (int wrong : new int[] {-1, 6, 24, Integer.MAX_VALUE}) {
            Bench.dueIndex(19, "sourceOf(" + wrong + ")", () -> x.sourceOf(wrong));
            Bench.dueIndex(20, "eventOf(" + wrong + ")", () -> x.eventOf(wrong));
            Bench.dueIndex(21, "targetOf(" + wrong + ")", () -> x.targetOf(wrong));
            Bench.dueIndex(22, "hasGuard(" + wrong + ")", () -> x.hasGuard(wrong) ? 1 : 0);
            Bench.dueIndex(23, "guardHolds(" + wrong + ")", () -> x.guardHolds(wrong) ? 1 : 0);
        }
    }

    private static void guards() {
        ContractMachine x = new ContractMachine();
        Bench.due(22, "hasGuard(0)", x.hasGuard(0), false);
        Bench.due(22, "hasGuard(1)", x.hasGuard(1), true);
        Bench.due(23, "guardHolds(0), which has none", x.guardHolds(0), true);
        Bench.due(23, "guardHolds(1) at 0 above 2", x.guardHolds(1), false);
        x.setValue(0, 2);
        Bench.due(23, "guardHolds(1) at 2 above 2", x.guardHolds(1), false);
        Bench.due(23, "guardHolds(3) at 2 atleast 2", x.guardHolds(3), true);
        x.setValue(0, 3);
        Bench.due(23, "guardHolds(1) at 3 above 2", x.guardHolds(1), true);
    }

    private static void invariants() {
        ContractMachine x = new ContractMachine();
        Bench.due(24, "stateOfInvariant(0)", x.stateOfInvariant(0), NONE);
        Bench.due(24, "stateOfInvariant(1)", x.stateOfInvariant(1), 0);
        x.fire(0);
        Bench.due(25, "comparisonHolds(1)", x.comparisonHolds(1), true);
        x.setValue(1, 0);
        Bench.due(25, "comparisonHolds(1) in another state", x.comparisonHolds(1), false);
        Bench.due(25, "comparisonHolds(0)", x.comparisonHolds(0), true);
        for (int wrong : new int[] {-1, 2, 12, Integer.MIN_VALUE}) {
            Bench.dueIndex(24, "stateOfInvariant(" + wrong + ")", () -> x.stateOfInvariant(wrong));
            Bench.dueIndex(25, "comparisonHolds(" + wrong + ")", () -> x.comparisonHolds(wrong) ? 1 : 0);
        }
    }

    /** Each operator below, at and above its constant, as a guard and as an invariant. */
    private static void operators() {
        String[] words = {"below", "atmost", "equals", "differs", "atleast", "above"};
        boolean[][] holds = {{true, false, false}, {true, true, false}, {false, true, false},
            {true, false, true}, {false, true, true}, {false, false, true}};
        for (int operator = 0; operator < words.length; operator++) {
            ContractMachine x = Bench.machine("state a;state b;event e;var v 4;on a e goto b when v "
                + words[operator] + " 4;inside b v " + words[operator] + " 4;");
            for (int k = 0; k < 3; k++) {
                x.setValue(0, 3 + k);
                String call = words[operator] + " 4 at " + (3 + k);
                Bench.due(23, "guardHolds(0), " + call, x.guardHolds(0), holds[operator][k]);
                Bench.due(25, "comparisonHolds(0), " + call, x.comparisonHolds(0), holds[operator][k]);
            }
        }
    }

    private static void verdicts() {
        ContractMachine x = Bench.machine("state a;state b;event e;event f;event g;event h;event i;var v 5;var w 0;"
            + "on a f goto b when v above 5;on a f goto a when v below 5;"
            + "on a g goto b do w sub 1;on a g goto b;on a h goto b do v add 5;"
            + "on a i goto b do v add 4;on a i goto a;on b e goto a;"
            + "always v atmost 9;inside b v below 9;always v differs 9;inside a v above 0;");
        int[] verdict = {ContractMachine.NO_TRANSITION, ContractMachine.GUARD_FAILED, ContractMachine.OUT_OF_BOUNDS,
            ContractMachine.OUT_OF_BOUNDS, ContractMachine.INVARIANT_BROKEN};
        int[] chosen = {NONE, NONE, 2, 4, 5};
        int[] broken = {NONE, NONE, NONE, NONE, 1};
        for (int event = 0; event < 5; event++) {
            Bench.due(26, "verdictOf(" + event + ")", x.verdictOf(event), verdict[event]);
        }
        for (int event = 0; event < 5; event++) {
            Bench.due(27, "chosenTransition(" + event + ")", x.chosenTransition(event), chosen[event]);
        }
        for (int event = 0; event < 5; event++) {
            Bench.due(28, "brokenInvariant(" + event + ")", x.brokenInvariant(event), broken[event]);
        }
        x.setValue(0, 4);
        Bench.due(26, "verdictOf(1), the second guard holds", x.verdictOf(1), ContractMachine.ACCEPTED);
        Bench.due(27, "chosenTransition(1), the second guard holds", x.chosenTransition(1), 1);
        Bench.due(28, "brokenInvariant(1) of an accepted event", x.brokenInvariant(1), NONE);
        Bench.due(26, "verdictOf(3) to the highest value", x.verdictOf(3), ContractMachine.INVARIANT_BROKEN);
        Bench.due(26, "verdictOf does not fire", x.currentState() + x.acceptedCount() + x.rejectedCount(), 0);
        for (int wrong : new int[] {-1, 5, 8, Integer.MAX_VALUE}) {
            Bench.dueIndex(26, "verdictOf(" + wrong + ")", () -> x.verdictOf(wrong));
            Bench.dueIndex(27, "chosenTransition(" + wrong + ")", () -> x.chosenTransition(wrong));
            Bench.dueIndex(28, "brokenInvariant(" + wrong + ")", () -> x.brokenInvariant(wrong));
        }
    }

    private static void deadlock() {
        ContractMachine x = Bench.machine("state a;event e;event f;var v 8;on a f goto a do v add 1;");
        Bench.due(29, "isDeadlocked()", x.isDeadlocked(), false);
        x.fire(1);
        Bench.due(29, "isDeadlocked() where nothing is accepted", x.isDeadlocked(), true);
        x.setValue(0, 0);
        Bench.due(29, "isDeadlocked() after setValue", x.isDeadlocked(), false);
    }

    /** As much of everything as section 1 allows: the last of each kind answers, the one behind it is not there. */
    private static void theFullest() {
        StringBuilder text = new StringBuilder();
        for (int i = 0; i < 10; i++) {
            text.append("state ").append((char) ('a' + i)).append(';');
        }
        for (int i = 0; i < 8; i++) {
            text.append("event ").append((char) ('k' + i)).append(';');
        }
        text.append("var x 1;var y 2;var z 3;");
        for (int i = 0; i < 24; i++) {
            text.append(i < 23 ? "on j r goto a;" : "on a r goto j;");
        }
        for (int i = 0; i < 12; i++) {
            text.append("always z above0;");
        }
        ContractMachine x = Bench.machine(text.toString());
        Bench.due(8, "stateCount() of the fullest", x.stateCount(), 10);
        Bench.due(9, "eventCount() of the fullest", x.eventCount(), 8);
        Bench.due(10, "variableCount() of the fullest", x.variableCount(), 3);
        Bench.due(11, "transitionCount() of the fullest", x.transitionCount(), 24);
        Bench.due(12, "invariantCount() of the fullest", x.invariantCount(), 12);
        Bench.due(13, "stateNameByte(9, 0)", x.stateNameByte(9, 0), 'j');
        Bench.due(14, "eventNameByte(7, 0)", x.eventNameByte(7, 0), 'r');
        Bench.due(15, "variableNameByte(2, 0)", x.variableNameByte(2, 0), 'z');
        Bench.due(38, "mostVisitedState() of the fullest", x.mostVisitedState(), 0);
        Bench.due(37, "firstUncovered() of the fullest", x.firstUncovered(), 0);
        Bench.due(51, "fire(7)", x.fire(7), ContractMachine.ACCEPTED);
        Bench.due(16, "currentState()", x.currentState(), 9);
        Bench.due(30, "timesTaken(23)", x.timesTaken(23), 1);
        Bench.due(31, "visitsOf(9)", x.visitsOf(9), 1);
        Bench.due(35, "stateCoverage() of the fullest", x.stateCoverage(), 2f / 10f);
        Bench.due(36, "transitionCoverage() of the fullest", x.transitionCoverage(), 1f / 24f);
        Bench.due(44, "canBeTaken(23)", x.canBeTaken(23), true);
        Bench.due(44, "canBeTaken(1)", x.canBeTaken(1), false);
        Bench.due(45, "stepsTo(9)", x.stepsTo(9), 0);
        Bench.due(46, "firstEventTo(0)", x.firstEventTo(0), 7);
        Bench.due(25, "comparisonHolds(11)", x.comparisonHolds(11), true);
        Bench.due(24, "stateOfInvariant(11)", x.stateOfInvariant(11), NONE);
        Bench.dueIndex(13, "stateNameByte(10, 0)", () -> x.stateNameByte(10, 0));
        Bench.dueIndex(14, "eventNameByte(8, 0)", () -> x.eventNameByte(8, 0));
        Bench.dueIndex(15, "variableNameByte(3, 0)", () -> x.variableNameByte(3, 0));
        Bench.dueIndex(19, "sourceOf(24)", () -> x.sourceOf(24));
        Bench.dueIndex(25, "comparisonHolds(12)", () -> x.comparisonHolds(12) ? 1 : 0);
        Bench.dueIndex(51, "fire(8)", () -> x.fire(8));
        Bench.dueIndex(43, "isReachable(10)", () -> x.isReachable(10) ? 1 : 0);
    }

    private MachineTest() {
    }
}
