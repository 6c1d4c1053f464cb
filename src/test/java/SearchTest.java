/** Promises 42 to 50: what can be reached, and the accounts. */
final class SearchTest {
    private static final int NONE = ContractMachine.NONE;

    public static void main(String[] args) {
        theFirstMachine();
        shortestWays();
        firstEvents();
        takeable();
        deadlocks();
        everyConfiguration();
        searchesFollowChanges();
        consistency();
        mean();
        Bench.end("SearchTest");
    }

    private static void theFirstMachine() {
        ContractMachine x = new ContractMachine();
        Bench.due(42, "reachableCount()", x.reachableCount(), 27);
        Bench.due(47, "deadlockCount()", x.deadlockCount(), 1);
        Bench.due(48, "stepsToDeadlock()", x.stepsToDeadlock(), 7);
        Bench.due(45, "stepsTo(2)", x.stepsTo(2), 4);
        for (int wrong : new int[] {-1, 3, 10, Integer.MIN_VALUE}) {
            Bench.dueIndex(43, "isReachable(" + wrong + ")", () -> x.isReachable(wrong) ? 1 : 0);
            Bench.dueIndex(45, "stepsTo(" + wrong + ")", () -> x.stepsTo(wrong));
            Bench.dueIndex(46, "firstEventTo(" + wrong + ")", () -> x.firstEventTo(wrong));
        }
        for (int wrong : new int[] {-1, 6, 24, Integer.MAX_VALUE}) {
            Bench.dueIndex(44, "canBeTaken(" + wrong + ")", () -> x.canBeTaken(wrong) ? 1 : 0);
        }
    }

    private static void shortestWays() {
        ContractMachine x = Bench.machine("state a;state b;state c;state d;event e;event f;var v 0;"
            + "on a e goto b;on b e goto c;on a f goto c;on c f goto a;");
        Bench.due(42, "reachableCount()", x.reachableCount(), 3);
        int[] steps = {0, 1, 1, NONE};
        int[] first = {NONE, 0, 1, NONE};
        for (int s = 0; s < 4; s++) {
            Bench.due(43, "isReachable(" + s + ")", x.isReachable(s), steps[s] != NONE);
            Bench.due(45, "stepsTo(" + s + ")", x.stepsTo(s), steps[s]);
            Bench.due(46, "firstEventTo(" + s + ")", x.firstEventTo(s), first[s]);
        }
    }

    /** Several shortest ways: the one that begins with the lowest event is told, wherever the ways meet. */
    private static void firstEvents() {
        ContractMachine x = Bench.machine("state a;state b;state c;state d;event e;event f;event g;var v 0;"
            + "on a g goto b;on a f goto c;on b e goto d;on c g goto d;on d e goto a;");
        Bench.due(45, "stepsTo(3)", x.stepsTo(3), 2);
        Bench.due(46, "firstEventTo(3)", x.firstEventTo(3), 1);
        Bench.due(46, "firstEventTo(1)", x.firstEventTo(1), 2);
        x.fire(1);
        Bench.due(45, "stepsTo(0) from c", x.stepsTo(0), 2);
        Bench.due(46, "firstEventTo(0) from c", x.firstEventTo(0), 2);
        Bench.due(46, "firstEventTo(2), the current state", x.firstEventTo(2), NONE);
        // A longer way with a lower event does not count.
        ContractMachine y = Bench.machine("state a;state b;state c;event e;event f;var v 0;"
            + "on a e goto b;on b e goto c;on a f goto c;");
        Bench.due(46, "firstEventTo(2) on the shorter way", y.firstEventTo(2), 1);
    }

    private static void takeable() {
        ContractMachine x = Bench.machine("state a;state b;event e;event f;var v 0;"
            + "on a e goto a when v below 2 do v add 1;on a e goto b;on a f goto a when v above 2;on a f goto b do v sub 1;"
            + "on a f goto a;on b e goto a do v sub 5;on b f goto b;always v below 3;inside b v equals 2;");
        boolean[] want = {true, true, false, false, false, false, true};
        for (int t = 0; t < want.length; t++) {
            Bench.due(44, "canBeTaken(" + t + ")", x.canBeTaken(t), want[t]);
        }
        x.fire(0);
        x.fire(0);
        Bench.due(44, "canBeTaken(0) behind it", x.canBeTaken(0), false);
        Bench.due(42, "reachableCount() behind it", x.reachableCount(), 2);
    }

    private static void deadlocks() {
        ContractMachine x = Bench.machine("state a;state b;state c;event e;event f;var v 0;var w 0;"
            + "on a e goto b;on a f goto a when v below 3 do v add 1;on b e goto c when v above 1;on b f goto b do w set 1;"
            + "inside b w equals 0;");
        // In b a value below 2 leaves no way; c is an end for both greater values.
        Bench.due(42, "reachableCount()", x.reachableCount(), 10);
        Bench.due(47, "deadlockCount()", x.deadlockCount(), 4);
        Bench.due(48, "stepsToDeadlock()", x.stepsToDeadlock(), 1);
        x.setValue(0, 2);
        Bench.due(47, "deadlockCount() from 2", x.deadlockCount(), 2);
        Bench.due(48, "stepsToDeadlock() from 2", x.stepsToDeadlock(), 2);
        x.fire(0);
        x.fire(0);
        Bench.due(48, "stepsToDeadlock() in one", x.stepsToDeadlock(), 0);
        ContractMachine y = Bench.machine("state a;event e;var v 0;on a e goto a;");
        Bench.due(47, "deadlockCount() of none", y.deadlockCount(), 0);
        Bench.due(48, "stepsToDeadlock() of none", y.stepsToDeadlock(), NONE);
        ContractMachine z = Bench.machine("state a;event e;var v 0;");
        Bench.due(42, "reachableCount() without transitions", z.reachableCount(), 1);
        Bench.due(47, "deadlockCount() without transitions", z.deadlockCount(), 1);
        Bench.due(48, "stepsToDeadlock() without transitions", z.stepsToDeadlock(), 0);
    }

    /** As many configurations as there can be: all are reachable. */
    private static void everyConfiguration() {
        StringBuilder text = new StringBuilder();
        for (char s = 'a'; s <= 'j'; s++) {
            text.append("state ").append(s).append(';');
        }
        text.append("event e;event f;event g;event h;event i;event j;event k;var x 0;var y 0;var z 0;");
        for (char s = 'a'; s < 'j'; s++) {
            text.append("on ").append(s).append(" e goto ").append((char) (s + 1)).append(';');
        }
        text.append("on j e goto a;on a f goto a do x add 1;on a g goto a do y add 1;on a h goto a do z add 1;");
        text.append("on a i goto a do x sub 1;on a j goto a do y sub 1;on a k goto a do z sub 1;");
        ContractMachine x = Bench.machine(text.toString());
        Bench.due(42, "reachableCount() of all", x.reachableCount(), 10000);
        Bench.due(45, "stepsTo(9)", x.stepsTo(9), 9);
        Bench.due(47, "deadlockCount()", x.deadlockCount(), 0);
        Bench.due(49, "isConsistent()", x.isConsistent(), true);
        Bench.due(42, "reachableCount() after isConsistent()", x.reachableCount(), 10000);
        Bench.due(45, "stepsTo(9) after isConsistent()", x.stepsTo(9), 9);
    }

    /** Each kind of change, after a search: the next search tells the new answers. */
    private static void searchesFollowChanges() {
        ContractMachine x = Bench.machine("state a;event e;var v 0;on a e goto a do v add 1;");
        Bench.due(42, "reachableCount()", x.reachableCount(), 10);
        x.fire(0);
        Bench.due(42, "reachableCount() after fire", x.reachableCount(), 9);
        x.setValue(0, 5);
        Bench.due(42, "reachableCount() after setValue", x.reachableCount(), 5);
        x.addAlways(0, ContractMachine.BELOW, 7);
        Bench.due(42, "reachableCount() after addAlways", x.reachableCount(), 2);
        x.saveState();
        x.undo();
        Bench.due(42, "reachableCount() after undo", x.reachableCount(), 5);
        x.reset();
        Bench.due(42, "reachableCount() after reset", x.reachableCount(), 10);
        x.restoreState();
        Bench.due(42, "reachableCount() after restoreState", x.reachableCount(), 2);
        Bench.script(x, "fire e;");
        Bench.due(42, "reachableCount() after runScript", x.reachableCount(), 1);
        Bench.feed(x, "state a;event e;var v 4;on a e goto a do v sub 2;");
        x.loadMachine();
        Bench.due(42, "reachableCount() after loadMachine", x.reachableCount(), 3);
        eachIsTheFirstToSearch();
    }

    /** No method of these leans on another one that searched before it. */
    private static void eachIsTheFirstToSearch() {
        Bench.due(43, "isReachable(2) of a new object", new ContractMachine().isReachable(2), true);
        Bench.due(43, "isReachable(1) of a new machine",
            Bench.machine("state a;state b;event e;var v 0;").isReachable(1), false);
        Bench.due(44, "canBeTaken(5) of a new object", new ContractMachine().canBeTaken(5), true);
        Bench.due(45, "stepsTo(2) of a new object", new ContractMachine().stepsTo(2), 4);
        Bench.due(46, "firstEventTo(2) of a new object", new ContractMachine().firstEventTo(2), 0);
        Bench.due(46, "firstEventTo(0) of a new object", new ContractMachine().firstEventTo(0), NONE);
        Bench.due(47, "deadlockCount() of a new object", new ContractMachine().deadlockCount(), 1);
        Bench.due(48, "stepsToDeadlock() of a new object", new ContractMachine().stepsToDeadlock(), 7);
        Bench.due(49, "isConsistent() of a new object", new ContractMachine().isConsistent(), true);
    }

    private static void consistency() {
        ContractMachine x = new ContractMachine();
        Bench.due(49, "isConsistent()", x.isConsistent(), true);
        Bench.script(x, "fire coin;fire coin;fire coin;fire coin;fire push;fire take;");
        Bench.due(49, "isConsistent() after a script", x.isConsistent(), true);
        x.reset();
        Bench.due(49, "isConsistent() after reset", x.isConsistent(), true);
        x.fire(0);
        x.clearCoverage();
        Bench.due(49, "isConsistent() after clearCoverage", x.isConsistent(), true);
        x.undo();
        Bench.due(49, "isConsistent() after undo", x.isConsistent(), true);
    }

    private static void mean() {
        ContractMachine x = new ContractMachine();
        Bench.due(50, "meanValue()", x.meanValue(), 1.5);
        ContractMachine y = Bench.machine("state a;event e;var v 1;var w 9;var x 0;");
        Bench.due(50, "meanValue() of three", y.meanValue(), 10.0 / 3.0);
        y.setValue(2, 2);
        Bench.due(50, "meanValue() after setValue", y.meanValue(), 4);
        ContractMachine z = Bench.machine("state a;event e;var v 7;");
        Bench.due(50, "meanValue() of one", z.meanValue(), 7);
    }

    private SearchTest() {
    }
}
