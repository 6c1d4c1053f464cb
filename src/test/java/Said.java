import java.io.IOException;
import java.nio.file.Files;
import java.nio.file.Path;
import java.util.LinkedHashMap;
import java.util.Map;
import java.util.NoSuchElementException;
import java.util.regex.Matcher;
import java.util.regex.Pattern;

/**
 * Ties each test to the sentence of the document that it tests. A test quotes its sentence first; what it checks
 * then counts for that sentence. In the end the whole document must have been quoted, from its first line to its
 * last, and no quoted sentence may be without a check, but those that leave something free.
 */
abstract class Said {
    static final int NONE = ContractMachine.NONE;
    static final int SYNTAX = ContractMachine.SYNTAX;
    static final int OUT_OF_RANGE = ContractMachine.OUT_OF_RANGE;
    static final int DUPLICATE_NAME = ContractMachine.DUPLICATE_NAME;
    static final int UNKNOWN_NAME = ContractMachine.UNKNOWN_NAME;
    static final int TOO_MANY = ContractMachine.TOO_MANY;
    static final int INCOMPLETE = ContractMachine.INCOMPLETE;
    static final int BROKEN_AT_START = ContractMachine.BROKEN_AT_START;
    static final int ACCEPTED = ContractMachine.ACCEPTED;
    static final int NO_TRANSITION = ContractMachine.NO_TRANSITION;
    static final int GUARD_FAILED = ContractMachine.GUARD_FAILED;
    static final int OUT_OF_BOUNDS = ContractMachine.OUT_OF_BOUNDS;
    static final int INVARIANT_BROKEN = ContractMachine.INVARIANT_BROKEN;
    static final int MIN = Integer.MIN_VALUE;
    static final int MAX = Integer.MAX_VALUE;

    /** A whole machine, to which statements are joined and on which scripts are run. */
    static final String WHOLE = "state a;state b;event e;event f;var v 1;var w 2;";

    private static final Pattern HEAD = Pattern.compile("# ContractMachine|## (?:What it is|The public face|Terms|Not promised)|## Promise (\\d+): .*? .*?\\([^)]*\\)( throws [^:]*)?:"
        + "|(\\d)\\. [A-Za-z ]+\\.|The constants:");

    /** The words behind a parameter that say no more than the sentence of the exception does. */
    private static final Pattern PLAIN = Pattern.compile("- [a-z]+: index of an? (state|event|variable|transition|invariant)(?= )");

    private static final Map<String, String> TEXTS = new LinkedHashMap<>();
    private static final Map<String, boolean[]> QUOTED = new LinkedHashMap<>();
    private static String sentence = "";
    private static int checksOfSentence = 1;
    private static int sentences;
    private static int checks;
    private static int wrong;

    interface Call {
        long answer();
    }

    // ---- the document

    static void readDocument() throws IOException {
        String all = Files.readString(Path.of("../shared/DOC.md"));
        String text = all.replaceAll("```[a-z]*", " ").replace("`", "");
        String[] parts = text.split("(?m)^(?=## |\\d\\. |The constants: )");
        for (String part : parts) {
            String plain = part.replaceAll("\\s+", " ").trim() + " ";
            Matcher head = HEAD.matcher(plain);
            if (!head.lookingAt()) {
                fail("the document has a part without a head: " + plain);
                continue;
            }
            String place = head.group(1) != null ? "promise " + head.group(1)
                : head.group(3) != null ? "section " + head.group(3) : head.group();
            TEXTS.put(place, plain);
            boolean[] quoted = new boolean[plain.length()];
            QUOTED.put(place, quoted);
            mark(quoted, 0, head.end());
            for (Matcher m = PLAIN.matcher(plain); m.find();) {
                mark(quoted, m.start(), m.end());
            }
        }
    }

    private static void mark(boolean[] quoted, int from, int to) {
        for (int i = from; i < to; i++) {
            quoted[i] = true;
        }
    }

    /** What the terms say in one of their numbered sections. */
    static void section(int number, String words) {
        quote("section " + number, words);
    }

    static void promise(int number, String words) {
        quote("promise " + number, words);
    }

    private static void close() {
        if (checksOfSentence == 0) {
            fail("nothing is checked of: " + sentence);
        }
    }

    static void quote(String place, String words) {
        close();
        sentence = place + ": " + words;
        sentences++;
        checksOfSentence = 0;
        String text = TEXTS.get(place);
        int at = text == null ? -1 : text.indexOf(words);
        if (at < 0) {
            fail("the document does not say: " + sentence);
        }
        for (; at >= 0; at = text.indexOf(words, at + 1)) {
            mark(QUOTED.get(place), at, at + words.length());
        }
    }

    /** What the document leaves free: there is nothing to check of it. */
    static void free(String place, String words) {
        quote(place, words);
        checksOfSentence = 1;
    }

    static void end() {
        close();
        for (Map.Entry<String, String> part : TEXTS.entrySet()) {
            boolean[] quoted = QUOTED.get(part.getKey());
            StringBuilder left = new StringBuilder();
            for (int i = 0; i < quoted.length; i++) {
                left.append(quoted[i] ? '\n' : part.getValue().charAt(i));
            }
            for (String words : left.toString().split("\n+")) {
                if (words.matches(".*[A-Za-z0-9].*")) {
                    fail("no test quotes, of " + part.getKey() + ": " + words.trim());
                }
            }
        }
        System.out.println("SentencesTest: " + sentences + " sentences, " + checks + " checks, " + wrong + " not as due");
        if (wrong != 0) {
            System.exit(1);
        }
    }

    // ---- checks

    private static void fail(String what) {
        wrong++;
        System.out.println(what);
    }

    private static void check(String call, Object got, Object want) {
        checks++;
        checksOfSentence++;
        if (!got.equals(want)) {
            fail(sentence + "\n    " + call + " answered " + got + ", due is " + want);
        }
    }

    static void due(String call, double got, double want) {
        check(call, got, want);
    }

    static void due(String call, boolean got, boolean want) {
        check(call, got, want);
    }

    static void due(String call, String got, String want) {
        check(call, got, want);
    }

    static void dueIndex(String call, Call made) {
        check(call, answer(made), IndexOutOfBoundsException.class.getName());
    }

    static void dueArgument(String call, Call made) {
        check(call, answer(made), IllegalArgumentException.class.getName());
    }

    static void dueState(String call, Call made) {
        check(call, answer(made), IllegalStateException.class.getName());
    }

    static void dueElement(String call, Call made) {
        check(call, answer(made), NoSuchElementException.class.getName());
    }

    static String answer(Call made) {
        try {
            return "" + made.answer();
        } catch (RuntimeException e) {
            return e.getClass().getName();
        }
    }

    // ---- texts

    static void setupLoads(String text) {
        ContractMachine x = new ContractMachine();
        Bench.feed(x, text);
        due("loadMachine() of " + text + " fails", x.loadMachine() == NONE, false);
        due("errorCode() of " + text, x.errorCode(), 0);
    }

    static void setupFails(String text, int code, int offset) {
        ContractMachine x = new ContractMachine();
        Bench.feed(x, text);
        due("loadMachine() of " + text, x.loadMachine(), NONE);
        due("errorCode() of " + text, x.errorCode(), code);
        due("errorOffset() of " + text, x.errorOffset(), offset);
    }

    static void scriptRuns(String text, int executed) {
        ContractMachine x = Bench.machine(WHOLE);
        due("runScript() of " + text, Bench.script(x, text), executed);
        due("errorCode() of " + text, x.errorCode(), 0);
    }

    static void scriptFails(String text, int code, int offset) {
        ContractMachine x = Bench.machine(WHOLE);
        due("runScript() of " + text, Bench.script(x, text), NONE);
        due("errorCode() of " + text, x.errorCode(), code);
        due("errorOffset() of " + text, x.errorOffset(), offset);
    }

    /** The statement so many times; each # becomes a letter of its own. */
    static String times(int times, String statement) {
        StringBuilder text = new StringBuilder();
        for (int i = 0; i < times; i++) {
            text.append(statement.replace('#', (char) ('a' + i)));
        }
        return text.toString();
    }

    /** As much of everything as there may be; the last transition goes from j to j and the last invariant is inside j. */
    static ContractMachine fullest() {
        return Bench.machine(times(10, "state #;") + times(8, "event #;") + times(3, "var #5;") + times(22, "on a b goto a;")
            + "on a h goto j;on j h goto j;" + times(11, "always a above0;") + "inside j c above1;");
    }

    // ---- all that an object can tell

    // An object is used for at most 512 calls: so everything is asked for once or twice of a small machine, standing more often.

    /** Every answer that can be asked for without changing anything, as a text. */
    static String everything(ContractMachine x) {
        StringBuilder s = new StringBuilder(standing(x));
        for (int i = 0, end = x.stateCount(); i < end; i++) {
            s.append(" s").append(i).append((char) x.stateNameByte(i, 0)).append(x.isReachable(i)).append(x.stepsTo(i))
                .append(x.firstEventTo(i));
        }
        for (int i = 0, end = x.eventCount(); i < end; i++) {
            s.append(" e").append(i).append((char) x.eventNameByte(i, 0)).append(x.verdictOf(i)).append(x.chosenTransition(i))
                .append(x.brokenInvariant(i));
        }
        for (int i = 0, end = x.variableCount(); i < end; i++) {
            s.append(" v").append(i).append((char) x.variableNameByte(i, 0)).append(x.initialValueOf(i));
        }
        for (int i = 0, end = x.transitionCount(); i < end; i++) {
            s.append(" t").append(i).append(x.sourceOf(i)).append(x.eventOf(i)).append(x.targetOf(i)).append(x.hasGuard(i))
                .append(x.guardHolds(i)).append(x.canBeTaken(i));
        }
        s.append(" errors ").append(x.errorCode()).append(' ').append(x.errorOffset());
        s.append(" output ").append(Bench.output(x));
        s.append(" search ").append(x.reachableCount()).append(' ').append(x.deadlockCount()).append(' ')
            .append(x.stepsToDeadlock()).append(x.isDeadlocked()).append(x.isConsistent());
        return s.toString();
    }

    /** What a change may change. */
    static String standing(ContractMachine x) {
        StringBuilder s = new StringBuilder("state ").append(x.currentState()).append(" values");
        for (int i = 0, end = x.variableCount(); i < end; i++) {
            s.append(' ').append(x.valueOf(i));
        }
        s.append(" invariants");
        for (int i = 0, end = x.invariantCount(); i < end; i++) {
            s.append(' ').append(x.stateOfInvariant(i)).append(x.comparisonHolds(i) ? 'h' : 'b');
        }
        s.append(" visits");
        for (int i = 0, end = x.stateCount(); i < end; i++) {
            s.append(' ').append(x.visitsOf(i));
        }
        s.append(" taken");
        for (int i = 0, end = x.transitionCount(); i < end; i++) {
            s.append(' ').append(x.timesTaken(i));
        }
        s.append(" counts ").append(x.acceptedCount()).append(' ').append(x.rejectedCount());
        for (int i = 1; i <= 4; i++) {
            s.append(' ').append(x.rejectedWith(i));
        }
        s.append(" trace");
        for (int i = 0, end = x.traceLength(); i < end; i++) {
            s.append(' ').append(x.traceEvent(i)).append('/').append(x.traceTransition(i));
        }
        return s.toString();
    }

    /** All that an object holds, down to what can be undone and restored and to its buffer. Uses the object up. */
    static String fate(ContractMachine x) {
        StringBuilder s = new StringBuilder(everything(x));
        int length = x.appendInput(0, 0, 0, 0, 0);
        s.append(" buffer ").append(length == NONE ? x.truncateInput(680) + "" : length - 20 + "");
        for (int i = 0; i < 9; i++) {
            s.append("\n    undo ").append(answer(() -> x.undo()))
                .append(" state ").append(x.currentState()).append(" value ").append(x.valueOf(0)).append(" counts ")
                .append(x.acceptedCount()).append(' ').append(x.rejectedCount()).append(' ').append(x.traceLength())
                .append(' ').append(x.invariantCount());
        }
        s.append("\n    restore ").append(answer(() -> x.restoreState())).append(' ').append(standing(x));
        return s.toString();
    }
}
