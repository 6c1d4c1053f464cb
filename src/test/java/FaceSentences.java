import java.io.IOException;
import java.util.Set;

/** What stands before the document's terms, and behind its last promise: what the class is, its face, what is free. */
final class FaceSentences extends Said {
    private static final String IS = "## What it is";
    private static final String FACE = "## The public face";
    private static final String FREE = "## Not promised";

    static void test() throws IOException {
        contractChecker();
        manyCalls();
        face();
        free(FREE, "How the state is held inside the object is free, as are the speed of each call, the text of toString and the"
            + " behaviour of equals and hashCode.");
        free(FREE, "Use of one object from several threads at once is not promised to be safe.");
        free(FREE, "Nothing is promised beyond the answers and state changes described above, and nothing about an object after its"
            + " 512th call.");
    }

    private static void contractChecker() {
        quote(IS, "A contract checker for an event-driven state machine with variables, guards, actions, invariants and coverage.");
        ContractMachine x = new ContractMachine();
        due("take, for which there are no coins", x.fire(2), OUT_OF_BOUNDS);
        due("coin", x.fire(0), ACCEPTED);
        due("push, for which there are too few", x.fire(1), GUARD_FAILED);
        due("coin again", x.fire(0), ACCEPTED);
        due("push", x.fire(1), ACCEPTED);
        due("the configuration", Bench.configuration(x), "idle coins=2 cups=2");
        x.setValue(1, 1);
        x.fire(0);
        due("push for the last cup", x.fire(1), INVARIANT_BROKEN);
        due("the configuration after it", Bench.configuration(x), "busy coins=3 cups=1");
        due("transitionCoverage()", x.transitionCoverage(), 3f / 6f);
        due("isConsistent()", x.isConsistent(), true);
    }

    // ---- 512 calls, of which the last is answered like the first

    private static void manyCalls() {
        quote(IS, "An object is used for at most 512 calls after it has been made; what later calls answer is free.");
        events();
        scripts();
        changes();
        undone();
        refused();
        searches();
        appended();
    }

    private static void events() {
        ContractMachine rejected = new ContractMachine();
        for (int i = 1; i <= 511; i++) {
            due("fire(1), the " + i + "th", rejected.fire(1), NO_TRANSITION);
        }
        due("rejectedCount(), the 512th call", rejected.rejectedCount(), 511);
        // To load it takes six calls.
        ContractMachine accepted = Bench.machine("state a;event e;var v 0;on a e goto a;");
        for (int i = 1; i <= 505; i++) {
            due("fire(0), the " + i + "th", accepted.fire(0), ACCEPTED);
        }
        due("visitsOf(0), the 512th call", accepted.visitsOf(0), 506);
    }

    /** The greatest counts that there can be: to load takes six calls, and each script of 30 statements fifteen. */
    private static void scripts() {
        ContractMachine x = Bench.machine("state a;event e;var v 0;on a e goto a;");
        for (int i = 1; i <= 33; i++) {
            due("runScript(), the " + i + "th", Bench.script(x, times(30, "fire e;")), 30);
        }
        due("acceptedCount()", x.acceptedCount(), 990);
        due("timesTaken(0)", x.timesTaken(0), 990);
        due("visitsOf(0)", x.visitsOf(0), 991);
        due("traceLength()", x.traceLength(), 20);
        due("isConsistent(), the 506th call", x.isConsistent(), true);
    }

    private static void changes() {
        ContractMachine x = new ContractMachine();
        for (int i = 1; i <= 64; i++) {
            String round = " in round " + i + " of 64, with eight calls each";
            due("saveState()" + round, x.saveState(), 0);
            due("fire(0)" + round, x.fire(0), ACCEPTED);
            due("setValue(1, 5)" + round, x.setValue(1, 5), 3);
            due("addAlways(1, BELOW, 9)" + round, x.addAlways(1, ContractMachine.BELOW, 9), 2);
            due("clearCoverage()" + round, x.clearCoverage(), 1);
            due("reset()" + round, x.reset(), 1);
            due("runScript() of an empty buffer" + round, x.runScript(), 0);
            due("restoreState()" + round, x.restoreState(), 0);
        }
    }

    private static void undone() {
        ContractMachine x = new ContractMachine();
        for (int i = 1; i <= 255; i++) {
            due("fire(0), the " + i + "th", x.fire(0), ACCEPTED);
            due("undo(), the " + i + "th", x.undo(), 0);
        }
        due("visitsOf(0), the 511th call", x.visitsOf(0), 1);
        dueElement("undo(), the 512th call", () -> x.undo());
    }

    private static void refused() {
        ContractMachine x = new ContractMachine();
        for (int i = 1; i <= 170; i++) {
            dueIndex("fire(3), the " + i + "th", () -> x.fire(3));
            dueState("setValue(0, 6), the " + i + "th", () -> x.setValue(0, 6));
            dueElement("undo(), the " + i + "th", () -> x.undo());
        }
        due("fire(0), the 511th call", x.fire(0), ACCEPTED);
        due("undo(), the 512th call", x.undo(), 0);
    }

    private static void searches() {
        ContractMachine x = new ContractMachine();
        for (int i = 1; i <= 128; i++) {
            due("reachableCount(), the " + i + "th", x.reachableCount(), 27);
            due("fire(0), the " + i + "th", x.fire(0), ACCEPTED);
            due("isConsistent(), the " + i + "th", x.isConsistent(), true);
            due("undo(), the " + i + "th", x.undo(), 0);
        }
    }

    private static void appended() {
        ContractMachine x = new ContractMachine();
        for (int i = 1; i <= 511; i++) {
            due("appendInput, the " + i + "th", x.appendInput(0, 0, 0, 0, 0), i <= 35 ? 20 * i : NONE);
        }
        due("truncateInput(700), the 512th call", x.truncateInput(700), true);
    }

    // ---- the face

    private static void face() throws IOException {
        Set<String> face = Face.ofClass();
        for (String line : Face.linesOfDocument()) {
            quote(FACE, line);
            if (Face.isMember(line)) {
                due(line, face.contains(Face.withoutNames(line)), true);
            } else if (line.startsWith("import ")) {
                dueElement("undo() of a new object", () -> new ContractMachine().undo());
            } else {
                due("the class", java.lang.reflect.Modifier.toString(ContractMachine.class.getModifiers()), "public final");
                due("its package", ContractMachine.class.getPackageName(), "");
            }
        }
    }

    private FaceSentences() {
    }
}
