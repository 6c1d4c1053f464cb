/** Promises 2 to 7 and section 8: the input buffer, setup texts and scripts. */
final class TextTest {
    private static final int NONE = ContractMachine.NONE;
    private static final int SYNTAX = ContractMachine.SYNTAX;
    private static final int OUT_OF_RANGE = ContractMachine.OUT_OF_RANGE;
    private static final int DUPLICATE_NAME = ContractMachine.DUPLICATE_NAME;
    private static final int UNKNOWN_NAME = ContractMachine.UNKNOWN_NAME;
    private static final int TOO_MANY = ContractMachine.TOO_MANY;
    private static final int INCOMPLETE = ContractMachine.INCOMPLETE;
    private static final int BROKEN_AT_START = ContractMachine.BROKEN_AT_START;

    /** A whole machine, to which statements are joined. */
    private static final String WHOLE = "state a;state b;event e;var v 1;";

    public static void main(String[] args) {
        buffer();
        loading();
        loadingLeavesWhatItMust();
        loadingAgain();
        tokens();
        setupSyntax();
        setupNames();
        setupLimits();
        setupEnds();
        scripts();
        scriptErrors();
        scriptIsOneChange();
        Bench.end("TextTest");
    }

    private static void buffer() {
        ContractMachine x = new ContractMachine();
        int four = 0x01020304;
        for (int i = 1; i <= 35; i++) {
            Bench.due(2, "appendInput, the " + i + "th", x.appendInput(four, four, four, four, four), 20 * i);
        }
        Bench.due(2, "appendInput beyond 700", x.appendInput(four, four, four, four, four), NONE);
        Bench.due(3, "truncateInput(701)", x.truncateInput(701), false);
        Bench.due(3, "truncateInput(700)", x.truncateInput(700), true);
        Bench.due(3, "truncateInput(681)", x.truncateInput(681), true);
        Bench.due(2, "appendInput at 681", x.appendInput(four, four, four, four, four), NONE);
        Bench.due(3, "truncateInput(680)", x.truncateInput(680), true);
        Bench.due(2, "appendInput at 680", x.appendInput(four, four, four, four, four), 700);
        Bench.due(3, "truncateInput(-1)", x.truncateInput(-1), false);
        Bench.due(3, "truncateInput(MIN)", x.truncateInput(Integer.MIN_VALUE), false);
        Bench.due(3, "truncateInput(0)", x.truncateInput(0), true);
        Bench.due(3, "truncateInput(1) of the empty buffer", x.truncateInput(1), false);
        Bench.due(2, "appendInput after truncateInput(0)", x.appendInput(0, 0, 0, 0, 0), 20);
        order();
    }

    /** Each byte has its place: the text is cut so that an error tells where it stands. */
    private static void order() {
        ContractMachine x = new ContractMachine();
        x.appendInput(0x73746174, 0x6520616E, 0x643B6576, 0x656E7420, 0x653B7661);
        x.appendInput(0x72206220, 0x393B2020, 0x20202020, 0x20202020, 0x202020FF);
        x.truncateInput(39);
        Bench.due(2, "loadMachine() of 'state and;event e;var b 9;'", x.loadMachine(), 1);
        Bench.due(2, "the state's name", x.stateNameByte(0, 2), 'd');
        Bench.due(2, "the variable's value", x.valueOf(0), 9);
        x.appendInput(0x72657365, 0x743BFF20, 0, 0, 0);
        x.truncateInput(8);
        dueScriptError("reset;[255]", x.runScript(), x, SYNTAX, 6);
    }

    private static void dueScriptError(String call, int answer, ContractMachine x, int code, int offset) {
        Bench.due(5, "runScript() of " + call, answer, NONE);
        Bench.due(6, "errorCode() of " + call, x.errorCode(), code);
        Bench.due(7, "errorOffset() of " + call, x.errorOffset(), offset);
    }

    private static void dueSetup(String text, int code, int offset) {
        ContractMachine x = new ContractMachine();
        Bench.feed(x, text);
        int answer = x.loadMachine();
        Bench.due(4, "loadMachine() of " + text, answer == NONE, code != 0);
        Bench.due(6, "errorCode() of " + text, x.errorCode(), code);
        Bench.due(7, "errorOffset() of " + text, x.errorOffset(), offset);
        Bench.due(4, "the buffer after " + text, x.truncateInput(1), false);
    }

    private static void dueScript(String text, int code, int offset) {
        ContractMachine x = Bench.machine(WHOLE);
        int answer = Bench.script(x, text);
        Bench.due(5, "runScript() of " + text, answer == NONE, code != 0);
        Bench.due(6, "errorCode() of " + text, x.errorCode(), code);
        Bench.due(7, "errorOffset() of " + text, x.errorOffset(), offset);
        Bench.due(5, "the buffer after " + text, x.truncateInput(1), false);
    }

    private static void loading() {
        ContractMachine x = new ContractMachine();
        x.fire(0);
        x.fire(2);
        x.saveState();
        Bench.feed(x, "state a;state b;event e;var v 7;on b e goto a when v above 3 do v sub 2;inside b v equals 7;");
        Bench.due(4, "loadMachine()", x.loadMachine(), 2);
        Bench.due(6, "errorCode()", x.errorCode(), 0);
        Bench.due(7, "errorOffset()", x.errorOffset(), NONE);
        Bench.dueText(4, "the configuration", Bench.configuration(x), "a v=7");
        Bench.due(4, "the counts", x.acceptedCount() + x.rejectedCount() + x.traceLength() + x.timesTaken(0), 0);
        Bench.due(4, "visitsOf(0)", x.visitsOf(0), 1);
        Bench.due(4, "visitsOf(1)", x.visitsOf(1), 0);
        Bench.due(4, "hasGuard(0)", x.hasGuard(0), true);
        Bench.due(4, "stateOfInvariant(0)", x.stateOfInvariant(0), 1);
        Bench.dueElement(4, "undo() after loadMachine", () -> x.undo());
        Bench.dueElement(4, "restoreState() after loadMachine", () -> x.restoreState());
        Bench.due(4, "the buffer", x.truncateInput(1), false);
        Bench.feed(x, WHOLE + "on a e goto b;");
        x.loadMachine();
        Bench.due(4, "hasGuard(0) of the next machine", x.hasGuard(0), false);
        Bench.due(4, "invariantCount() of the next machine", x.invariantCount(), 0);
        x.fire(0);
        Bench.dueText(4, "no action of the machine before", Bench.configuration(x), "b v=1");
    }

    private static void loadingLeavesWhatItMust() {
        ContractMachine x = new ContractMachine();
        x.fire(0);
        x.saveState();
        x.writeConfiguration();
        Bench.feed(x, "state q;state r;event f;event g;var w 9;var q 9;always w below 9;");
        Bench.due(4, "loadMachine() of a broken text", x.loadMachine(), NONE);
        Bench.due(6, "errorCode()", x.errorCode(), BROKEN_AT_START);
        Bench.due(4, "stateCount()", x.stateCount(), 3);
        Bench.due(4, "stateNameByte(0, 0)", x.stateNameByte(0, 0), 'i');
        Bench.due(4, "currentState()", x.currentState(), 1);
        Bench.due(4, "initialValueOf(0)", x.initialValueOf(0), 0);
        Bench.due(4, "transitionCount()", x.transitionCount(), 6);
        Bench.due(4, "invariantCount()", x.invariantCount(), 2);
        Bench.due(4, "acceptedCount()", x.acceptedCount(), 1);
        Bench.dueText(4, "the output", Bench.output(x), "busy coins=1 cups=3");
        Bench.due(4, "undo()", x.undo(), 0);
        Bench.due(4, "restoreState()", x.restoreState(), 1);
        Bench.due(6, "errorCode() after undo and restoreState", x.errorCode(), BROKEN_AT_START);
        Bench.due(5, "runScript()", Bench.script(x, "reset;"), 1);
        Bench.due(6, "errorCode() after a good script", x.errorCode(), 0);
        Bench.due(7, "errorOffset() after a good script", x.errorOffset(), NONE);
    }

    /** Nothing of the texts before shows through: neither of those with an error nor of the others. */
    private static void loadingAgain() {
        ContractMachine x = Bench.machine("state a;state b;event e;var v 1;on a e goto b;always v below 9;");
        Bench.feed(x, "state q;state r;state s;event f;var w 9;on q f goto q;");
        x.truncateInput(53);
        Bench.due(4, "loadMachine() with an error behind a good one", x.loadMachine(), NONE);
        Bench.due(4, "stateCount()", x.stateCount(), 2);
        Bench.due(4, "stateNameByte(0, 0)", x.stateNameByte(0, 0), 'a');
        Bench.due(4, "initialValueOf(0)", x.initialValueOf(0), 1);
        Bench.due(4, "targetOf(0)", x.targetOf(0), 1);
        Bench.feed(x, "state a;event e;var v 1;var w x;");
        Bench.due(4, "loadMachine() without a value", x.loadMachine(), NONE);
        Bench.feed(x, "state a;event e;var v 1;on a e goto a do v add 1;");
        Bench.due(4, "loadMachine() of one variable", x.loadMachine(), 1);
        Bench.due(42, "reachableCount() of it", x.reachableCount(), 9);
        for (String name : new String[] {"r", "s", "b"}) {
            Bench.feed(x, "state a;event e;var v 1;on a e goto " + name + ";");
            Bench.due(4, "loadMachine() with a name of a text before", x.loadMachine(), NONE);
            Bench.due(6, "errorCode() of it", x.errorCode(), UNKNOWN_NAME);
            Bench.feed(x, "state " + name + ";event e;var v 1;");
            Bench.due(4, "loadMachine() with that name", x.loadMachine(), 1);
        }
    }

    private static void tokens() {
        dueSetup("  state\na\n;event e;var v009;\n ", 0, NONE);
        dueSetup("state a;event e;var v 0010;", SYNTAX, 22);
        dueSetup("state a;event e;var v 010;", OUT_OF_RANGE, 22);
        dueSetup("state a;event e;var v 9;", 0, NONE);
        dueSetup("state a;event e;var v 10;", OUT_OF_RANGE, 22);
        dueSetup("state a;event e;var v 999;", OUT_OF_RANGE, 22);
        dueSetup("state a;event e;var v 1000;", SYNTAX, 22);
        dueSetup("state a;event e;var v 4294967296;", SYNTAX, 22);
        dueSetup("state abcdef;event e;var v 1;", 0, NONE);
        dueSetup("state abcdefg;event e;var v 1;", SYNTAX, 6);
        dueSetup("state abcdefgh;", SYNTAX, 6);
        dueSetup("state abcdefghi;", SYNTAX, 6);
        dueSetup("state State;", SYNTAX, 6);
        dueSetup("state stAte;", SYNTAX, 8);
        dueSetup("state a\t;", SYNTAX, 7);
        dueSetup("state a\r;", SYNTAX, 7);
        dueSetup("state a,", SYNTAX, 7);
        dueSetup("state `;", SYNTAX, 6);
        dueSetup("state {;", SYNTAX, 6);
        dueSetup("state " + (char) 225 + ";", SYNTAX, 6);
        dueSetup("state a;event e;var v /;", SYNTAX, 22);
        dueSetup("state a;event e;var v :;", SYNTAX, 22);
        dueSetup("state " + (char) 0 + ";", SYNTAX, 6);
        // Words of the grammar are names like others.
        dueSetup("state on;event goto;var when 1;on on goto goto on when when below 3 do when add 1;", 0, NONE);
    }

    private static void setupSyntax() {
        dueSetup(";", SYNTAX, 0);
        dueSetup("7;", SYNTAX, 0);
        dueSetup("10;", SYNTAX, 0);
        dueSetup("fire e;", SYNTAX, 0);
        dueSetup("states a;", SYNTAX, 0);
        dueSetup("stat a;", SYNTAX, 0);
        dueSetup("state;", SYNTAX, 5);
        dueSetup("state 10;", SYNTAX, 6);
        dueSetup("state a b;", SYNTAX, 8);
        dueSetup("state a;;", SYNTAX, 8);
        dueSetup("event;", SYNTAX, 5);
        dueSetup("var v;", SYNTAX, 5);
        dueSetup("var v x;", SYNTAX, 6);
        dueSetup("var v 1 2;", SYNTAX, 8);
        String[] wrong = {"on a e goto b when v above", "on a e goto b when v", "on a e goto b when", "on a e goto b do v add",
            "on a e goto b do v", "on a e goto b do", "on a e goto", "on a e", "on a", "on", "always v below", "always v", "always",
            "inside a v above", "inside a v", "inside a", "inside", "on a e goto b when v above 1 do v set", "always v below 3",
            "on a e goto b", "on a e goto b when v above 1", "on a e goto b do v sub 1"};
        for (String text : wrong) {
            dueSetup(WHOLE + text, SYNTAX, WHOLE.length() + text.length());
            dueSetup(WHOLE + text + " \n", SYNTAX, WHOLE.length() + text.length() + 2);
            dueSetup(WHOLE + text + " 5000;", SYNTAX, WHOLE.length() + text.length() + 1);
            dueSetup(WHOLE + text + "abcdefghi;", SYNTAX, WHOLE.length() + Math.max(text.lastIndexOf(' ') + 1, 0)
                + (Character.isDigit(text.charAt(text.length() - 1)) ? 1 : 0));
        }
        dueSetup(WHOLE + "on a e to b;", SYNTAX, WHOLE.length() + 7);
        dueSetup(WHOLE + "on a e goto b do v add 1 when v above 1;", SYNTAX, WHOLE.length() + 25);
        dueSetup(WHOLE + "on a e goto b when v over 1;", SYNTAX, WHOLE.length() + 21);
        dueSetup(WHOLE + "on a e goto b do v mul 1;", SYNTAX, WHOLE.length() + 19);
        dueSetup(WHOLE + "always v 5;", SYNTAX, WHOLE.length() + 9);
        dueSetup(WHOLE + "inside a v 5;", SYNTAX, WHOLE.length() + 11);
        dueSetup(WHOLE + "on a e goto b when v 5;", SYNTAX, WHOLE.length() + 21);
        dueSetup(WHOLE + "on a e goto b do v 5;", SYNTAX, WHOLE.length() + 19);
        dueSetup(WHOLE + "on a e b;", SYNTAX, WHOLE.length() + 7);
        dueSetup(WHOLE + "on a e goto b do v add 10;", OUT_OF_RANGE, WHOLE.length() + 23);
        dueSetup(WHOLE + "on a e goto b when v above 10;", OUT_OF_RANGE, WHOLE.length() + 27);
        dueSetup(WHOLE + "always v above 10;", OUT_OF_RANGE, WHOLE.length() + 15);
        dueSetup(WHOLE + "inside a v above 10;", OUT_OF_RANGE, WHOLE.length() + 17);
        dueSetup(WHOLE + "on a e goto b when v above 9 do v add 9;", 0, NONE);
    }

    private static void setupNames() {
        dueSetup("state a;state a", DUPLICATE_NAME, 14);
        dueSetup("event a;event b;event a;", DUPLICATE_NAME, 22);
        dueSetup("var a 1;var a 10;", DUPLICATE_NAME, 12);
        dueSetup("state a;event a;var a 1;", 0, NONE);
        dueSetup("state a;state aa;event e;var v 1;", 0, NONE);
        dueSetup(WHOLE + "on c e goto a;", UNKNOWN_NAME, WHOLE.length() + 3);
        dueSetup(WHOLE + "on a a goto a;", UNKNOWN_NAME, WHOLE.length() + 5);
        dueSetup(WHOLE + "on a e goto e;", UNKNOWN_NAME, WHOLE.length() + 12);
        dueSetup(WHOLE + "on a e goto b when a above 1;", UNKNOWN_NAME, WHOLE.length() + 19);
        dueSetup(WHOLE + "on a e goto b do vv add 1;", UNKNOWN_NAME, WHOLE.length() + 17);
        dueSetup(WHOLE + "always a above 1;", UNKNOWN_NAME, WHOLE.length() + 7);
        dueSetup(WHOLE + "inside v v above 1;", UNKNOWN_NAME, WHOLE.length() + 7);
        dueSetup(WHOLE + "inside a e above 1;", UNKNOWN_NAME, WHOLE.length() + 9);
        dueSetup(WHOLE + "on abcdefg e goto a;", SYNTAX, WHOLE.length() + 3);
        // Names must be declared earlier.
        dueSetup("state a;event e;on a e goto b;state b;var v 1;", UNKNOWN_NAME, 28);
        dueSetup("always v below 3;state a;event e;var v 1;", UNKNOWN_NAME, 7);
    }

    private static String times(String statement, int times, boolean named) {
        StringBuilder text = new StringBuilder();
        for (int i = 0; i < times; i++) {
            text.append(named ? statement.replace('#', (char) ('a' + i)) : statement);
        }
        return text.toString();
    }

    private static void setupLimits() {
        String states = times("state #;", 10, true);
        dueSetup(states + "event e;var v 1;", 0, NONE);
        dueSetup(states + "event e;state z;", TOO_MANY, 88);
        dueSetup(states + "state a;", TOO_MANY, 80);
        dueSetup(states + "state", TOO_MANY, 80);
        dueSetup(states + "stat", SYNTAX, 80);
        String events = times("event #;", 8, true);
        dueSetup(events + "state s;var v 1;", 0, NONE);
        dueSetup(events + "event 5;", TOO_MANY, 64);
        String variables = times("var # 1;", 3, true);
        dueSetup(variables + "state s;event e;", 0, NONE);
        dueSetup(variables + "var d 1;", TOO_MANY, 24);
        String on = times("on a e goto b;", 24, false);
        dueSetup(WHOLE + on, 0, NONE);
        dueSetup(WHOLE + on + "on x", TOO_MANY, WHOLE.length() + on.length());
        String always = times("always v below 9;", 7, false) + times("inside a v below 9;", 5, false);
        dueSetup(WHOLE + always, 0, NONE);
        dueSetup(WHOLE + always + "always x", TOO_MANY, WHOLE.length() + always.length());
        dueSetup(WHOLE + always + "inside x", TOO_MANY, WHOLE.length() + always.length());
        dueSetup(WHOLE + always + "state c;", 0, NONE);
    }

    private static void setupEnds() {
        dueSetup("", INCOMPLETE, 0);
        dueSetup(" \n ", INCOMPLETE, 3);
        dueSetup("state a;event e;", INCOMPLETE, 16);
        dueSetup("state a;var v 1; ", INCOMPLETE, 17);
        dueSetup("event e;var v 1;", INCOMPLETE, 16);
        dueSetup("state a;var v 1;always v above 1;", INCOMPLETE, 33);
        dueSetup("state a;event e", SYNTAX, 15);
        dueSetup("state a", SYNTAX, 7);
        dueSetup(WHOLE + "always v above 1;\n", BROKEN_AT_START, WHOLE.length() + 18);
        dueSetup(WHOLE + "inside a v below 1;", BROKEN_AT_START, WHOLE.length() + 19);
        dueSetup(WHOLE + "inside b v below 1;", 0, NONE);
    }

    private static void scripts() {
        ContractMachine x = new ContractMachine();
        Bench.due(5, "runScript()", Bench.script(x, "fire coin;fire push;\nset cups 5;fire coin;reset;clear;fire coin"
            + " ;fire take;"), 8);
        Bench.dueText(5, "the configuration", Bench.configuration(x), "busy coins=1 cups=3");
        Bench.due(5, "acceptedCount()", x.acceptedCount(), 1);
        Bench.due(5, "rejectedWith(NO_TRANSITION)", x.rejectedWith(ContractMachine.NO_TRANSITION), 1);
        Bench.due(5, "visitsOf(0)", x.visitsOf(0), 1);
        Bench.due(5, "traceLength()", x.traceLength(), 1);
        Bench.due(5, "an empty script", Bench.script(x, ""), 0);
        Bench.due(5, "a script of blanks", Bench.script(x, " \n"), 0);
        Bench.due(5, "a script that stops", Bench.script(x, "set coins 5;fire coin;set coins 6;reset;"), 2);
        Bench.dueText(5, "the configuration", Bench.configuration(x), "busy coins=5 cups=3");
        Bench.due(6, "errorCode() of a script that stops", x.errorCode(), 0);
        Bench.due(5, "rejectedWith(INVARIANT_BROKEN)", x.rejectedWith(ContractMachine.INVARIANT_BROKEN), 1);
        Bench.due(5, "a script that stops at once", Bench.script(x, "set coins 6;fire coin;"), 0);
        Bench.due(5, "undo() of that script", x.undo(), 4);
    }

    private static void scriptErrors() {
        String setup = "reset;";
        dueScript("fire e;set v 9;reset;clear;", 0, NONE);
        dueScript("fire e;fire a;", UNKNOWN_NAME, 12);
        dueScript("set e 1;", UNKNOWN_NAME, 4);
        dueScript("set v 10;", OUT_OF_RANGE, 6);
        dueScript("set v e;", SYNTAX, 6);
        dueScript("set v;", SYNTAX, 5);
        dueScript("fire;", SYNTAX, 4);
        dueScript("fire 1;", SYNTAX, 5);
        dueScript("fire abcdefg;", SYNTAX, 5);
        dueScript("fire e e;", SYNTAX, 7);
        dueScript("reset 1;", SYNTAX, 6);
        dueScript("clear", SYNTAX, 5);
        dueScript("reset", SYNTAX, 5);
        dueScript("reset\n ", SYNTAX, 7);
        dueScript("state c;", SYNTAX, 0);
        dueScript("undo;", SYNTAX, 0);
        dueScript(";", SYNTAX, 0);
        dueScript(times(setup, 30, false), 0, NONE);
        for (String more : new String[] {"reset", "fire", "set", "clear"}) {
            dueScript(times(setup, 30, false) + " " + more, TOO_MANY, 181);
        }
        dueScript(times(setup, 30, false) + "resets;", SYNTAX, 180);
        dueScript(times(setup, 30, false) + ";", SYNTAX, 180);
        dueScript(times("fire e;", 30, false) + "  ", 0, NONE);
        dueCutScript("fire eee;", 6, SYNTAX, 6);
        dueCutScript("set v 12;", 7, SYNTAX, 7);
        dueCutScript("reset;", 5, SYNTAX, 5);
        ContractMachine x = new ContractMachine();
        Bench.due(5, "a script with an error", Bench.script(x, "fire coin;fire coin;fire;"), NONE);
        Bench.due(5, "nothing of it is executed", x.acceptedCount(), 0);
        Bench.dueElement(5, "undo() after it", () -> x.undo());
    }

    /** What stood behind the cut is no part of the text. */
    private static void dueCutScript(String text, int length, int code, int offset) {
        ContractMachine x = Bench.machine(WHOLE);
        Bench.feed(x, text);
        x.truncateInput(length);
        dueScriptError(text + " cut to " + length, x.runScript(), x, code, offset);
    }

    private static void scriptIsOneChange() {
        ContractMachine x = new ContractMachine();
        x.fire(0);
        Bench.script(x, "fire coin;fire coin;clear;");
        Bench.due(5, "acceptedCount()", x.acceptedCount(), 0);
        Bench.due(5, "undo() of the script", x.undo(), 1);
        Bench.due(5, "acceptedCount() after undo", x.acceptedCount(), 1);
        Bench.dueText(5, "the configuration after undo", Bench.configuration(x), "busy coins=1 cups=3");
        Bench.script(x, "");
        Bench.due(5, "undo() of an empty script", x.undo(), 1);
    }

    private TextTest() {
    }
}
