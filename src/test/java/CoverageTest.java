/** Promises 30 to 41: the counts and the trace. */
final class CoverageTest {
    private static final int NONE = ContractMachine.NONE;

    public static void main(String[] args) {
        counts();
        rejections();
        shares();
        firstAndMost();
        trace();
        Bench.end("CoverageTest");
    }

    private static void counts() {
        ContractMachine x = new ContractMachine();
        for (int event : new int[] {0, 0, 0, 0, 1, 0, 1, 1, 2, 0, 0, 1}) {
            x.fire(event);
        }
        int[] taken = {2, 1, 4, 1, 1, 0};
        int[] visits = {3, 6, 1};
        for (int t = 0; t < taken.length; t++) {
            Bench.due(30, "timesTaken(" + t + ")", x.timesTaken(t), taken[t]);
        }
        for (int s = 0; s < visits.length; s++) {
            Bench.due(31, "visitsOf(" + s + ")", x.visitsOf(s), visits[s]);
        }
        Bench.due(32, "acceptedCount()", x.acceptedCount(), 9);
        Bench.due(33, "rejectedCount()", x.rejectedCount(), 3);
        for (int wrong : new int[] {-1, 6, 24, Integer.MIN_VALUE}) {
            Bench.dueIndex(30, "timesTaken(" + wrong + ")", () -> x.timesTaken(wrong));
        }
        for (int wrong : new int[] {-1, 3, 10, Integer.MAX_VALUE}) {
            Bench.dueIndex(31, "visitsOf(" + wrong + ")", () -> x.visitsOf(wrong));
        }
        ContractMachine y = Bench.machine("state a;event e;var v 0;on a e goto a;");
        y.fire(0);
        Bench.due(31, "visitsOf(0), led to from itself", y.visitsOf(0), 2);
    }

    private static void rejections() {
        ContractMachine x = new ContractMachine();
        Bench.script(x, "fire push;fire take;fire coin;fire push;fire push;set coins 5;fire coin;fire coin;fire coin;");
        int[] want = {0, 1, 2, 1, 3};
        for (int verdict = 1; verdict < 5; verdict++) {
            Bench.due(34, "rejectedWith(" + verdict + ")", x.rejectedWith(verdict), want[verdict]);
        }
        Bench.due(33, "rejectedCount()", x.rejectedCount(), 7);
        Bench.due(32, "acceptedCount()", x.acceptedCount(), 1);
        for (int wrong : new int[] {0, -1, 5, Integer.MIN_VALUE, Integer.MAX_VALUE}) {
            Bench.dueArgument(34, "rejectedWith(" + wrong + ")", () -> x.rejectedWith(wrong));
        }
    }

    private static void shares() {
        ContractMachine x = new ContractMachine();
        Bench.due(35, "stateCoverage()", x.stateCoverage(), 1f / 3f);
        Bench.due(36, "transitionCoverage()", x.transitionCoverage(), 0);
        x.fire(0);
        x.fire(0);
        x.fire(0);
        Bench.due(35, "stateCoverage() of two states", x.stateCoverage(), 2f / 3f);
        Bench.due(36, "transitionCoverage() of two transitions", x.transitionCoverage(), 2f / 6f);
        x.fire(0);
        Bench.due(35, "stateCoverage() of all", x.stateCoverage(), 1);
        Bench.due(36, "transitionCoverage() of three", x.transitionCoverage(), 0.5);
        ContractMachine none = Bench.machine("state a;state b;event e;var v 0;");
        Bench.due(36, "transitionCoverage() without transitions", none.transitionCoverage(), 1);
        Bench.due(35, "stateCoverage() without transitions", none.stateCoverage(), 0.5);
        Bench.due(37, "firstUncovered() without transitions", none.firstUncovered(), NONE);
    }

    private static void firstAndMost() {
        ContractMachine x = Bench.machine("state a;state b;state c;event e;event f;var v 0;"
            + "on a f goto b;on a e goto c;on c e goto a;on b e goto c;");
        Bench.due(37, "firstUncovered()", x.firstUncovered(), 0);
        Bench.due(38, "mostVisitedState()", x.mostVisitedState(), 0);
        x.fire(0);
        Bench.due(37, "firstUncovered() with a later one taken", x.firstUncovered(), 0);
        Bench.due(38, "mostVisitedState() of two alike", x.mostVisitedState(), 0);
        x.fire(0);
        x.fire(1);
        Bench.due(37, "firstUncovered() with three taken", x.firstUncovered(), 3);
        x.fire(0);
        Bench.due(37, "firstUncovered() with all taken", x.firstUncovered(), NONE);
        Bench.due(38, "mostVisitedState() of two alike again", x.mostVisitedState(), 0);
        x.fire(0);
        x.fire(0);
        Bench.due(38, "mostVisitedState() after a", x.mostVisitedState(), 0);
        x.clearCoverage();
        Bench.due(38, "mostVisitedState() after clearCoverage in c", x.mostVisitedState(), 2);
    }

    private static void trace() {
        ContractMachine x = Bench.machine("state a;event e;event f;event g;var v 0;on a e goto a;on a f goto a;");
        Bench.due(39, "traceLength()", x.traceLength(), 0);
        Bench.due(40, "traceEvent(0)", x.traceEvent(0), NONE);
        Bench.due(41, "traceTransition(0)", x.traceTransition(0), NONE);
        x.fire(1);
        x.fire(2);
        x.fire(0);
        Bench.due(39, "traceLength() of two", x.traceLength(), 2);
        Bench.due(40, "traceEvent(0)", x.traceEvent(0), 0);
        Bench.due(40, "traceEvent(1)", x.traceEvent(1), 1);
        Bench.due(40, "traceEvent(2)", x.traceEvent(2), NONE);
        Bench.due(41, "traceTransition(1)", x.traceTransition(1), 1);
        Bench.due(41, "traceTransition(2)", x.traceTransition(2), NONE);
        for (int i = 0; i < 19; i++) {
            x.fire(0);
        }
        Bench.due(39, "traceLength() of 21", x.traceLength(), 20);
        Bench.due(40, "traceEvent(19), the first one is out", x.traceEvent(19), 0);
        Bench.due(40, "traceEvent(20)", x.traceEvent(20), NONE);
        Bench.due(41, "traceTransition(20)", x.traceTransition(20), NONE);
        Bench.due(40, "traceEvent(-1)", x.traceEvent(-1), NONE);
        Bench.due(41, "traceTransition(-1)", x.traceTransition(-1), NONE);
        Bench.due(40, "traceEvent(MAX)", x.traceEvent(Integer.MAX_VALUE), NONE);
        Bench.due(41, "traceTransition(MIN)", x.traceTransition(Integer.MIN_VALUE), NONE);
        ContractMachine y = Bench.machine("state a;state b;event e;var v 0;on b e goto a;on a e goto b;");
        y.fire(0);
        Bench.due(40, "traceEvent(0) of transition 1", y.traceEvent(0), 0);
        Bench.due(41, "traceTransition(0) of transition 1", y.traceTransition(0), 1);
    }

    private CoverageTest() {
    }
}
