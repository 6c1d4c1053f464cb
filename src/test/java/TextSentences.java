/** Section 8 of the document's terms, and promises 2 to 7: the input buffer, setup texts and scripts. */
final class TextSentences extends Said {
    private static final int AT = WHOLE.length();
    private static final int FOUR = 0x20202020;

    static void test() {
        bufferHolds();
        tokens();
        blanks();
        semicolons();
        numbersNamesAndOperators();
        brackets();
        setupStatements();
        declaredEarlier();
        scriptStatements();
        leftToRight();
        smallestCode();
        offsets();
        codes();
        appendInput();
        truncateInput();
        loadMachine();
        runScript();
        errorCode();
        errorOffset();
    }

    private static int append(ContractMachine x) {
        return x.appendInput(FOUR, FOUR, FOUR, FOUR, FOUR);
    }

    private static ContractMachine filled(int times) {
        ContractMachine x = new ContractMachine();
        for (int i = 0; i < times; i++) {
            append(x);
        }
        return x;
    }

    // ---- section 8

    private static void bufferHolds() {
        section(8, "The input buffer holds at most 700 bytes.");
        due("the 35th appendInput", append(filled(34)), 700);
        due("the 36th appendInput", append(filled(35)), NONE);
        ContractMachine x = new ContractMachine();
        String text = "state a;event e;var v 1;" + times(15, "inside a v equals 1;").substring(0, 12 * 20);
        text = text + " ".repeat(700 - text.length() - 14) + "on a e goto a;";
        Bench.feed(x, text);
        due("truncateInput(700) of a full buffer", x.truncateInput(700), true);
        due("loadMachine() of 700 bytes", x.loadMachine(), 1);
        due("transitionCount(), from the last bytes", x.transitionCount(), 1);
        Bench.feed(x, " ".repeat(699) + ";");
        due("runScript() of 700 bytes", x.runScript(), NONE);
        due("errorOffset() of the last byte", x.errorOffset(), 699);
        Bench.feed(x, " ".repeat(700));
        due("loadMachine() of 700 blanks", x.loadMachine(), NONE);
        due("errorOffset() at the end of a full buffer", x.errorOffset(), 700);
        Bench.feed(x, ("state" + " ".repeat(800)).substring(0, 700));
        due("loadMachine() of 700 bytes that end too early", x.loadMachine(), NONE);
        due("errorOffset() of them", x.errorOffset(), 700);
        Bench.feed(x, "a".repeat(700));
        due("loadMachine() of one word of 700 letters", x.loadMachine(), NONE);
        due("errorOffset() of it", x.errorOffset(), 0);
        Bench.feed(x, "set v " + "1".repeat(694));
        due("runScript() of a number of 694 digits", x.runScript(), NONE);
        due("errorOffset() of it", x.errorOffset(), 6);
        Bench.feed(x, "state a;event e;var v " + "0".repeat(677) + "1");
        due("loadMachine() of a number of 678 digits", x.loadMachine(), NONE);
        due("errorCode() of it", x.errorCode(), SYNTAX);
        Bench.feed(x, ";".repeat(700));
        due("loadMachine() of 700 semicolons", x.loadMachine(), NONE);
        due("errorOffset() of them", x.errorOffset(), 0);
    }

    private static void tokens() {
        section(8, "A token is a word (a maximal run of lowercase letters, at most 8), a number (a maximal run of digits, at most 3)"
            + " or a semicolon.");
        // Of 8 letters or of 9, there is no such name: the offset tells that a run is one token.
        setupFails("state abcdefgh;", SYNTAX, 6);
        setupFails("state abcdefghi;", SYNTAX, 6);
        setupFails("statea;", SYNTAX, 0);
        setupFails("state a;event e;var v 1;on a e gotoa;", SYNTAX, 31);
        setupLoads("state a;event e;var v9;var w0;on a e goto a when v equals9do w add3;");
        setupFails("state a;event e;var 9v;", SYNTAX, 20);
        setupLoads("state a;event e;var v 007;");
        setupLoads("state a;event e;var v 000;");
        setupLoads("state a;event e;var v 01;");
        setupFails("state a;event e;var v 0001;", SYNTAX, 22);
        setupFails("state a;event e;var v 1 1;", SYNTAX, 24);
        setupFails("state az2;", SYNTAX, 8);
        setupFails("state a;event e;var v 3b;", SYNTAX, 23);
        setupLoads("state az;event ez;var vz 0;");
        for (int sign : new int[] {0, 1, 9, 11, 13, 31, 33, '/', ':', '<', '@', 'A', 'Z', '[', '_', '`', '{', 127, 128, 160, 225, 255}) {
            setupFails("state a" + (char) sign + ";", SYNTAX, 7);
            setupFails("state a;event e;var v 1" + (char) sign + ";", SYNTAX, 23);
            setupFails((char) sign + "", SYNTAX, 0);
        }
    }

    private static void blanks() {
        section(8, "Spaces (byte 32) and line feeds (byte 10) separate tokens and are otherwise ignored.");
        setupLoads("state a;event e;var v 1;".replace(" ", "\n"));
        setupLoads("\n \n state \n\n a ;\n event e ; var v 1 ; \n ");
        setupFails("sta te a;", SYNTAX, 0);
        setupFails("state a;event e;var v\n1\n0;", SYNTAX, 24);
        setupFails("state ab c;", SYNTAX, 9);
        setupFails("state\ta;", SYNTAX, 5);
        setupFails("state\ra;", SYNTAX, 5);
        scriptRuns("", 0);
        scriptRuns(" ", 0);
        scriptRuns("\n", 0);
        scriptRuns("\nfire\ne\n;\n", 1);
        scriptFails("fire e\u000b;", SYNTAX, 6);
    }

    private static void semicolons() {
        section(8, "Each statement ends with a semicolon.");
        String[] statements = {"state c", "event g", "var x 1", "on a e goto b", "on a e goto b when v below 1", "on a e goto b do v add 1",
            "always v above 0", "inside b v above 1"};
        for (String statement : statements) {
            setupLoads(WHOLE + statement + ";");
            setupFails(WHOLE + statement, SYNTAX, AT + statement.length());
            setupFails(WHOLE + statement + " state q;", SYNTAX, AT + statement.length() + 1);
            setupFails(WHOLE + statement + ";;", SYNTAX, AT + statement.length() + 1);
            setupFails(WHOLE + statement + " abcdefghi", SYNTAX, AT + statement.length() + 1);
            setupFails(WHOLE + statement + " 1234", SYNTAX, AT + statement.length() + 1);
            setupFails(WHOLE + statement + " :", SYNTAX, AT + statement.length() + 1);
        }
        for (String statement : new String[] {"fire e", "set v 1", "reset", "clear"}) {
            scriptRuns(statement + ";", 1);
            scriptFails(statement, SYNTAX, statement.length());
            scriptFails(statement + " reset;", SYNTAX, statement.length() + 1);
            scriptFails(statement + ";;", SYNTAX, statement.length() + 1);
            scriptFails(statement + " abcdefghi", SYNTAX, statement.length() + 1);
            scriptFails(statement + " 1234", SYNTAX, statement.length() + 1);
        }
    }

    private static void numbersNamesAndOperators() {
        section(8, "N stands for a number of 0 to 9, NAME for a word of 1 to 6 letters, and OP for one of the words below, atmost, equals,"
            + " differs, atleast and above.");
        for (String head : new String[] {"var x ", "on a e goto b when v below ", "on a e goto b do v add ", "on a e goto b do v sub ",
            "on a e goto b do v set ", "always w differs ", "inside b v below "}) {
            setupLoads(WHOLE + head + "0;");
            setupLoads(WHOLE + head + "9;");
            setupFails(WHOLE + head + "10;", OUT_OF_RANGE, AT + head.length());
            setupFails(WHOLE + head + "256;", OUT_OF_RANGE, AT + head.length());
            setupFails(WHOLE + head + "x;", SYNTAX, AT + head.length());
            setupFails(WHOLE + head + ";", SYNTAX, AT + head.length());
        }
        scriptRuns("set v 0;", 1);
        scriptRuns("set v 9;", 1);
        scriptFails("set v 10;", OUT_OF_RANGE, 6);
        scriptFails("fire abcdefg;", SYNTAX, 5);
        scriptFails("fire 5;", SYNTAX, 5);
        scriptFails("fire ;", SYNTAX, 5);
        String[] operators = {"below", "atmost", "equals", "differs", "atleast", "above"};
        for (int i = 0; i < operators.length; i++) {
            setupLoads(WHOLE + "on a e goto b when v " + operators[i] + " 5;inside b v " + operators[i] + " 5;");
            setupFails(WHOLE + "always v " + operators[i].substring(1) + " 5;", SYNTAX, AT + 9);
            setupFails(WHOLE + "always v " + operators[i] + "s 5;", SYNTAX, AT + 9);
            setupFails(WHOLE + "inside a v " + operators[i].substring(0, 4) + " 5;", SYNTAX, AT + 11);
        }
        for (String word : new String[] {"is", "v", "when", "over", "add"}) {
            setupFails(WHOLE + "on a e goto b when v " + word + " 5;", SYNTAX, AT + 21);
            setupFails(WHOLE + "always v " + word + " 5;", SYNTAX, AT + 9);
        }
        // A word that stands in the grammar is a name all the same.
        setupLoads("state state;event event;var var 1;on state event goto state when var below 2 do var add 1;inside state var above 0;");
    }

    private static void brackets() {
        section(8, "Square brackets enclose what may be missing, and a vertical bar separates alternatives.");
        String on = "on a e goto b";
        setupLoads(WHOLE + on + ";");
        setupLoads(WHOLE + on + " when v below 5;");
        setupLoads(WHOLE + on + " do v add 1;");
        setupLoads(WHOLE + on + " do v sub 1;");
        setupLoads(WHOLE + on + " do v set 1;");
        setupLoads(WHOLE + on + " when v below 5 do w add 1;");
        setupFails(WHOLE + on + " do v add 1 when v below 5;", SYNTAX, AT + 25);
        setupFails(WHOLE + on + " when v below 5 when v below 5;", SYNTAX, AT + 29);
        setupFails(WHOLE + on + " do v add 1 do v add 1;", SYNTAX, AT + 25);
        setupFails(WHOLE + on + " do v add sub 1;", SYNTAX, AT + 23);
        setupFails(WHOLE + on + " do v mul 1;", SYNTAX, AT + 19);
        setupFails(WHOLE + on + " do v 1;", SYNTAX, AT + 19);
        setupFails(WHOLE + on + " when v 1;", SYNTAX, AT + 21);
        setupFails(WHOLE + on + " v add 1;", SYNTAX, AT + 14);
        ContractMachine x = Bench.machine(WHOLE + on + " when v below 5;" + on + ";" + on + " do v add 1;");
        due("hasGuard(0)", x.hasGuard(0), true);
        due("hasGuard(1), behind one with a guard", x.hasGuard(1), false);
        due("hasGuard(2)", x.hasGuard(2), false);
    }

    private static void setupStatements() {
        section(8, "The statements of a setup text are: state NAME event NAME var NAME N (the initial value) on NAME NAME goto NAME"
            + " [ when NAME OP N ] [ do NAME ( add | sub | set ) N ] (source state, event, target state; the names behind when and do"
            + " are those of variables) always NAME OP N (a variable) inside NAME NAME OP N (a state, a variable)");
        ContractMachine x = Bench.machine("state p;state q;event r;event s;var t 4;var u 5;"
            + "on p s goto q when u equals 5 do t add 2;inside q t above 5;always u below 6;");
        due("transition 0", "" + x.sourceOf(0) + x.eventOf(0) + x.targetOf(0) + x.hasGuard(0), "011true");
        due("invariant 0", x.stateOfInvariant(0), 1);
        due("comparisonHolds(0)", x.comparisonHolds(0), false);
        due("invariant 1", x.stateOfInvariant(1), NONE);
        due("fire(1)", x.fire(1), ACCEPTED);
        due("the configuration", Bench.configuration(x), "q t=6 u=5");
        // Each name must be one of the kind that the place asks for.
        String[] wrong = {"on e e goto b", "on a b goto b", "on a e goto e", "on a e goto b when a below 1", "on a e goto b do e add 1",
            "always a below 1", "inside v v below 1", "inside b b below 1"};
        int[] offsets = {3, 5, 12, 19, 17, 7, 7, 9};
        for (int i = 0; i < wrong.length; i++) {
            setupFails(WHOLE + wrong[i] + ";", UNKNOWN_NAME, AT + offsets[i]);
        }
        for (String word : new String[] {"fire e", "set v 1", "reset", "clear", "stat c", "states c", "vars x 1", "ona e goto b", "goto a", "when",
            "do", "below", "add"}) {
            setupFails(WHOLE + word + ";", SYNTAX, AT);
        }
        eachLetterCounts();
    }

    /** A word of the grammar with one letter changed, left out or put in is another word. */
    private static void eachLetterCounts() {
        String[] statements = {"#state c;", "#event g;", "#var x 1;", "#on a e goto b;", "on a e #goto b;", "on a e goto b #when v below 5;",
            "on a e goto b #do v add 1;", "on a e goto b do v #add 1;", "on a e goto b do v #sub 1;", "on a e goto b do v #set 1;",
            "#always v below 5;", "#inside a v below 5;", "always v #below 5;", "always v #atmost 5;", "always v #equals 1;",
            "always v #differs 5;", "always v #atleast 1;", "always v #above 0;"};
        for (String statement : statements) {
            eachLetterCounts(statement, true);
        }
    }

    private static void eachLetterCounts(String statement, boolean isSetup) {
        int from = statement.indexOf('#');
        String word = statement.substring(from + 1).split("[^a-z]")[0];
        for (int i = 0; i <= word.length(); i++) {
            String head = word.substring(0, i);
            String tail = word.substring(Math.min(word.length(), i + 1));
            for (String other : new String[] {head + "q" + tail, head + tail, head + "q" + word.substring(i)}) {
                String text = statement.replace("#" + word, other);
                if (other.equals(word)) {
                    continue;
                }
                if (isSetup) {
                    setupFails(WHOLE + text, SYNTAX, AT + from);
                } else {
                    scriptFails(text, SYNTAX, from);
                }
            }
        }
    }

    private static void declaredEarlier() {
        section(8, "Names must be declared earlier in the text.");
        setupFails("state a;event e;on a e goto b;state b;var v 1;", UNKNOWN_NAME, 28);
        setupFails("state a;on a e goto a;event e;var v 1;", UNKNOWN_NAME, 13);
        setupFails("event e;on a e goto a;state a;var v 1;", UNKNOWN_NAME, 11);
        setupFails("state a;event e;on a e goto a when v below 1;var v 1;", UNKNOWN_NAME, 35);
        setupFails("state a;event e;on a e goto a do v add 1;var v 1;", UNKNOWN_NAME, 33);
        setupFails("always v below 1;var v 0;", UNKNOWN_NAME, 7);
        setupFails("var v 0;inside a v below 1;state a;", UNKNOWN_NAME, 15);
        setupFails("state a;inside a v below 1;var v 0;", UNKNOWN_NAME, 17);
        setupLoads("event e;var v 1;always v below 2;state a;on a e goto a;state b;on a e goto b;");
        // Nor in the text before: a name of the machine that is replaced is unknown.
        ContractMachine x = Bench.machine("state a;state c;event e;var v 1;");
        Bench.feed(x, WHOLE + "on a e goto c;");
        due("loadMachine() with a name of the machine before", x.loadMachine(), NONE);
        due("errorCode()", x.errorCode(), UNKNOWN_NAME);
    }

    private static void scriptStatements() {
        section(8, "The statements of a script are: fire NAME (an event) | set NAME N (a variable) | reset | clear");
        eachLetterCounts("#fire e;", false);
        eachLetterCounts("#set v 1;", false);
        eachLetterCounts("#reset;", false);
        eachLetterCounts("#clear;", false);
        scriptRuns("fire f;set w 9;reset;clear;", 4);
        scriptFails("fire a;", UNKNOWN_NAME, 5);
        scriptFails("fire v;", UNKNOWN_NAME, 5);
        scriptFails("set a 1;", UNKNOWN_NAME, 4);
        scriptFails("set e 1;", UNKNOWN_NAME, 4);
        scriptFails("set v;", SYNTAX, 5);
        scriptFails("set 1 v;", SYNTAX, 4);
        scriptFails("reset e;", SYNTAX, 6);
        scriptFails("clear 1;", SYNTAX, 6);
        for (String word : new String[] {"state c;", "on a e goto b;", "undo;", "fires e;", "fir e;", "sets v 1;", "se v 1;", "resets;", "clea;",
            "Fire e;", "5;", ";"}) {
            scriptFails(word, SYNTAX, 0);
        }
    }

    private static void leftToRight() {
        section(8, "A text is parsed from left to right, and parsing stops at the first token with an error.");
        setupFails("state a;state a;var v 99;bad;", DUPLICATE_NAME, 14);
        setupFails("var v 99;state a;state a;bad;", OUT_OF_RANGE, 6);
        setupFails("bad;var v 99;state a;state a;", SYNTAX, 0);
        setupFails(WHOLE + "on x y goto z when q over 99;", UNKNOWN_NAME, AT + 3);
        setupFails(WHOLE + "always v below 10" + (char) 0, OUT_OF_RANGE, AT + 15);
        setupFails(times(11, "state #;") + "var", TOO_MANY, 80);
        // What comes at the end alone comes behind every other error.
        setupFails("state a;always", SYNTAX, 14);
        setupFails(WHOLE + "always v above 1;x", SYNTAX, AT + 17);
        scriptFails("fire q;set v 10;bad;", UNKNOWN_NAME, 5);
        scriptFails("set v 10;fire q;bad;", OUT_OF_RANGE, 6);
        // An error that comes later keeps the statements before it from being executed.
        ContractMachine x = Bench.machine(WHOLE + "on a e goto b;");
        due("runScript()", Bench.script(x, "fire e;fire"), NONE);
        due("currentState()", x.currentState(), 0);
    }

    private static void smallestCode() {
        section(8, "If several errors apply to that token, the one with the smallest code is reported.");
        // Too long and too great; not allowed and too great; not allowed and unknown; too long a name and used already.
        setupFails("state a;event e;var v 1000;", SYNTAX, 22);
        setupFails("state 10;", SYNTAX, 6);
        setupFails("state a 10;", SYNTAX, 8);
        setupFails(WHOLE + "on a e goto abcdefg;", SYNTAX, AT + 12);
        setupFails(WHOLE + "on a e goto 77;", SYNTAX, AT + 12);
        setupFails(WHOLE + "on a e goto b when v 10;", SYNTAX, AT + 21);
        scriptFails("fire abcdefg;", SYNTAX, 5);
        scriptFails("fire 10;", SYNTAX, 5);
        scriptFails("set v 1000;", SYNTAX, 6);
        // A 31st statement that begins with what no statement begins with.
        for (String word : new String[] {"undo;", "state c;", ";", "10;", "abcdefghi;", "" + (char) 200}) {
            scriptFails(times(30, "reset;") + word, SYNTAX, 180);
        }
        setupFails(times(10, "state #;") + "states z;", SYNTAX, 80);
        // Without a state, and broken at the start.
        setupFails("event e;var v 1;always v above 1;", INCOMPLETE, 33);
        setupFails("state a;var v 1;always v above 1;", INCOMPLETE, 33);
    }

    private static void offsets() {
        section(8, "The error offset is the index of the first byte of the token, or the length of the text if the text ends too early.");
        setupFails("bad;", SYNTAX, 0);
        setupFails("\n bad;", SYNTAX, 2);
        setupFails("state abcdefg ;", SYNTAX, 6);
        setupFails("state\n\n  abcdefghij;", SYNTAX, 9);
        setupFails("state a;event e;var v  \n 123;", OUT_OF_RANGE, 25);
        setupFails("s", SYNTAX, 0);
        setupFails("state", SYNTAX, 5);
        setupFails("state ", SYNTAX, 6);
        setupFails("state a", SYNTAX, 7);
        setupFails("state a \n ", SYNTAX, 10);
        setupFails(WHOLE + "on a e goto b when", SYNTAX, AT + 18);
        setupFails(WHOLE + "on a e goto b do v set \n", SYNTAX, AT + 24);
        setupFails(WHOLE + "state abcdefg", SYNTAX, AT + 6);
        scriptFails("fire", SYNTAX, 4);
        scriptFails("set v ", SYNTAX, 6);
        scriptFails("reset;reset", SYNTAX, 11);
    }

    private static void codes() {
        section(8, "The error codes are: SYNTAX: the token is not allowed at its place, it is too long, a byte belongs to no token,"
            + " or the text ends too early.");
        setupFails("goto a;", SYNTAX, 0);
        setupFails("state abcdefghi;", SYNTAX, 6);
        setupFails("var v 0000;", SYNTAX, 6);
        setupFails("state a$;", SYNTAX, 7);
        setupFails("state a", SYNTAX, 7);
        section(8, "OUT_OF_RANGE: a number is greater than 9.");
        setupLoads("state a;event e;var v 9;");
        setupLoads("state a;event e;var v 009;");
        setupFails("state a;event e;var v 10;", OUT_OF_RANGE, 22);
        setupFails("state a;event e;var v 010;", OUT_OF_RANGE, 22);
        setupFails("state a;event e;var v 999;", OUT_OF_RANGE, 22);
        section(8, "DUPLICATE_NAME: the name of a new state, event or variable is already used for the same kind.");
        setupFails("state a;state b;state a;", DUPLICATE_NAME, 22);
        setupFails("event a;event b;event b;", DUPLICATE_NAME, 22);
        setupFails("var a 1;var b 1;var a 1;", DUPLICATE_NAME, 20);
        setupFails(times(9, "state #;") + "state i;", DUPLICATE_NAME, 78);
        setupLoads("state a;event a;var a 1;");
        section(8, "UNKNOWN_NAME: no state, event or variable of the kind that is required has the name.");
        setupFails(WHOLE + "on aa e goto b;", UNKNOWN_NAME, AT + 3);
        setupFails(WHOLE + "on e e goto b;", UNKNOWN_NAME, AT + 3);
        setupFails(WHOLE + "inside v v below 1;", UNKNOWN_NAME, AT + 7);
        setupFails("state abcdef;event e;var v 1;on abcde e goto abcdef;", UNKNOWN_NAME, 32);
        setupFails("state abcdef;event e;var v 1;on abcdef e goto abcdeg;", UNKNOWN_NAME, 46);
        section(8, "TOO_MANY: the first word of a statement that would exceed a limit of section 1, or of a 31st statement of a script.");
        setupFails(times(10, "state #;") + "state a;", TOO_MANY, 80);
        setupFails(times(10, "state #;") + "state", TOO_MANY, 80);
        setupFails(times(8, "event #;") + " event 9", TOO_MANY, 65);
        setupFails(times(3, "var # 1;") + "var a 10;", TOO_MANY, 24);
        setupFails(WHOLE + times(24, "on a e goto b;") + "on q q q;", TOO_MANY, AT + 24 * 14);
        setupFails(WHOLE + times(12, "always v below 9;") + "always;", TOO_MANY, AT + 12 * 17);
        setupFails(WHOLE + times(12, "inside a v below 9;") + "inside;", TOO_MANY, AT + 12 * 19);
        scriptRuns(times(30, "reset;"), 30);
        scriptRuns(times(30, "set v 1;"), 30);
        for (String more : new String[] {"reset;", "clear;", "fire e;", "set v 1;", "fire q;", "set v 10;", "reset", "fire"}) {
            scriptFails(times(30, "reset;") + more, TOO_MANY, 180);
        }
        section(8, "INCOMPLETE: a setup text ends without a state, an event or a variable; the error offset is then the length of the text.");
        setupFails("", INCOMPLETE, 0);
        setupFails("\n ", INCOMPLETE, 2);
        setupFails("state a;event e;", INCOMPLETE, 16);
        setupFails("state a;var v 1;\n", INCOMPLETE, 17);
        setupFails("event e;var v 1; ", INCOMPLETE, 17);
        setupFails("state a;", INCOMPLETE, 8);
        setupFails("event e;", INCOMPLETE, 8);
        setupFails("var v 1;", INCOMPLETE, 8);
        section(8, "BROKEN_AT_START: a setup text ends, and its initial configuration breaks an invariant;"
            + " the error offset is then the length of the text.");
        setupFails(WHOLE + "always v above 1;", BROKEN_AT_START, AT + 17);
        setupFails(WHOLE + "always v above 1; \n", BROKEN_AT_START, AT + 19);
        setupFails(WHOLE + "inside a v above 1;", BROKEN_AT_START, AT + 19);
        setupFails(WHOLE + "always v atleast 1;always w atmost 1;", BROKEN_AT_START, AT + 37);
        setupFails(WHOLE + times(11, "always v below 9;") + "always v above 9;", BROKEN_AT_START, AT + 12 * 17);
        setupLoads(WHOLE + "always v atleast 1;inside a w atmost 2;inside b w above 8;");
    }

    // ---- promises 2 and 3

    private static void appendInput() {
        promise(2, "Appends 20 bytes to the input buffer.");
        ContractMachine x = new ContractMachine();
        due("appendInput of 20 bytes of no token", x.appendInput(-1, MIN, MAX, 0, 1), 20);
        due("truncateInput(20)", x.truncateInput(20), true);
        due("truncateInput(21)", x.truncateInput(21), false);
        promise(2, "Each parameter contributes four bytes, the most significant byte first. - a: first four bytes - b: next four bytes"
            + " - c: next four bytes - d: next four bytes - e: last four bytes");
        // "state b;event e;var " and "v 7;": each byte at its place, or the text would have an error.
        ContractMachine y = new ContractMachine();
        y.appendInput(0x73746174, 0x6520623B, 0x6576656E, 0x7420653B, 0x76617220);
        y.appendInput(0x7620373B, FOUR, FOUR, FOUR, FOUR);
        due("loadMachine()", y.loadMachine(), 1);
        due("the configuration", Bench.configuration(y), "b v=7");
        // One byte that is no blank, at each place in turn, with its highest bit set or not.
        for (int at = 0; at < 20; at++) {
            for (int sign : new int[] {0x3B, 0x80, 0xFF}) {
                int[] words = {FOUR, FOUR, FOUR, FOUR, FOUR};
                words[at / 4] ^= (0x20 ^ sign) << 24 - 8 * (at % 4);
                y.appendInput(words[0], words[1], words[2], words[3], words[4]);
                y.runScript();
                due("errorOffset() of byte " + at, y.errorOffset(), at);
            }
        }
        promise(2, "Returns the new length of the input buffer, or NONE if it would exceed 700; the buffer is then unchanged.");
        ContractMachine z = new ContractMachine();
        for (int i = 1; i <= 35; i++) {
            due("appendInput, the " + i + "th", append(z), 20 * i);
        }
        due("appendInput at 700", z.appendInput(-1, -1, -1, -1, -1), NONE);
        due("truncateInput(701)", z.truncateInput(701), false);
        due("truncateInput(700)", z.truncateInput(700), true);
        due("truncateInput(681)", z.truncateInput(681), true);
        due("appendInput at 681", z.appendInput(-1, -1, -1, -1, -1), NONE);
        due("truncateInput(682)", z.truncateInput(682), false);
        due("truncateInput(680)", z.truncateInput(680), true);
        due("appendInput at 680", append(z), 700);
        due("runScript() of 700 blanks: nothing of what was refused is there", z.runScript(), 0);
        due("appendInput to the buffer that was emptied", append(z), 20);
    }

    private static void truncateInput() {
        promise(3, "Truncates the input buffer. - length: the new length");
        ContractMachine x = new ContractMachine();
        Bench.feed(x, "reset;reset;reset;bad");
        due("truncateInput(18)", x.truncateInput(18), true);
        due("truncateInput(12)", x.truncateInput(12), true);
        due("runScript() of what is left", x.runScript(), 2);
        Bench.feed(x, "reset;xxxxxxxxxxxxxxxx");
        x.truncateInput(6);
        due("appendInput behind the cut", append(x), 26);
        due("runScript() of both", x.runScript(), 1);
        promise(3, "Returns true if the buffer was truncated; false, without a change, if length is negative or greater than the current length.");
        ContractMachine y = new ContractMachine();
        due("truncateInput(0) of an empty buffer", y.truncateInput(0), true);
        due("truncateInput(1) of an empty buffer", y.truncateInput(1), false);
        append(y);
        due("truncateInput(-1)", y.truncateInput(-1), false);
        due("truncateInput(MIN)", y.truncateInput(MIN), false);
        due("truncateInput(21)", y.truncateInput(21), false);
        due("truncateInput(701)", y.truncateInput(701), false);
        due("truncateInput(MAX)", y.truncateInput(MAX), false);
        due("truncateInput(20), the length that it has", y.truncateInput(20), true);
        due("truncateInput(19)", y.truncateInput(19), true);
        due("truncateInput(20) again", y.truncateInput(20), false);
        due("truncateInput(0)", y.truncateInput(0), true);
        due("appendInput", append(y), 20);
    }

    // ---- promise 4

    private static ContractMachine used() {
        ContractMachine x = new ContractMachine();
        Bench.script(x, "fire coin;fire push;fire coin;");
        x.addAlways(1, ContractMachine.BELOW, 9);
        x.saveState();
        x.fire(0);
        x.writeConfiguration();
        return x;
    }

    private static void loadMachine() {
        promise(4, "Parses the input buffer as a setup text (section 8) and empties the buffer in any case.");
        ContractMachine x = new ContractMachine();
        for (String text : new String[] {WHOLE, "", "bad", "state a;", WHOLE + "always v above 1;"}) {
            Bench.feed(x, text);
            x.loadMachine();
            due("truncateInput(1) after loadMachine() of " + text, x.truncateInput(1), false);
        }
        x.loadMachine();
        due("errorCode() of an empty buffer", x.errorCode(), INCOMPLETE);
        loads();
        refuses();
        promise(4, "Returns the number of states, or NONE if the text has an error.");
        for (int states : new int[] {1, 2, 10}) {
            ContractMachine y = new ContractMachine();
            Bench.feed(y, times(states, "state #;") + "event e;var v 1;");
            due("loadMachine() of " + states, y.loadMachine(), states);
            Bench.feed(y, times(states, "state #;"));
            due("loadMachine() without an event", y.loadMachine(), NONE);
        }
    }

    private static void loads() {
        promise(4, "If the text has no error, it replaces the machine and its coverage; the initial configuration is the current one,"
            + " nothing can be undone and no state is saved.");
        ContractMachine x = used();
        due("stepsTo(2) before", x.stepsTo(2), 1);
        Bench.feed(x, Bench.FIRST_SETUP);
        due("loadMachine()", x.loadMachine(), 3);
        due("stepsTo(2)", x.stepsTo(2), 4);
        due("the standing", standing(x), standing(new ContractMachine()));
        dueElement("undo()", () -> x.undo());
        dueElement("restoreState()", () -> x.restoreState());
        due("outputByte(0), which is no part of the machine", x.outputByte(0), 'b');
        x.reset();
        due("undo() of a change after it", x.undo(), 0);
        Bench.feed(x, "state q;event r;var s 3;");
        due("loadMachine() of a smaller one", x.loadMachine(), 1);
        due("the standing of the smaller one", standing(x), "state 0 values 3 invariants visits 1 taken counts 0 0 0 0 0 0 trace");
        dueIndex("stateNameByte(1, 0)", () -> x.stateNameByte(1, 0));
        dueIndex("sourceOf(0)", () -> x.sourceOf(0));
        dueIndex("stateOfInvariant(0)", () -> x.stateOfInvariant(0));
        dueElement("undo() after the second", () -> x.undo());
        dueElement("restoreState() after the second", () -> x.restoreState());
        // The fullest one after it: nothing of the rows behind the smaller machine shows through.
        Bench.feed(x, times(10, "state #;") + times(8, "event #;") + times(3, "var # 1;") + times(24, "on a h goto j;"));
        due("loadMachine() of a fuller one", x.loadMachine(), 10);
        due("fire(7)", x.fire(7), ACCEPTED);
        due("the configuration", Bench.configuration(x), "j a=1 b=1 c=1");
        due("hasGuard(23)", x.hasGuard(23), false);
        // Nor of a text with an error that was read in between.
        Bench.feed(x, "state z;event z;var z 1;var y 10;");
        x.loadMachine();
        Bench.feed(x, "state a;event e;var v 0;on a e goto a do v add 9;");
        due("loadMachine() behind an error", x.loadMachine(), 1);
        due("reachableCount() behind an error", x.reachableCount(), 2);
        due("meanValue() behind an error", x.meanValue(), 0);
    }

    private static void refuses() {
        promise(4, "If the text has an error, only the buffer and the reported error change.");
        String[] texts = {"", "bad", "state z;state z;", "state z;event z;var z 10;", "state z;event y;", WHOLE + "always v above 1;",
            WHOLE + "on a e goto c;", times(11, "state #;"), "state z;state y;state x;event w;var v 1;var u 2;var t 3;on z w goto y"};
        int[] codes = {INCOMPLETE, SYNTAX, DUPLICATE_NAME, OUT_OF_RANGE, INCOMPLETE, BROKEN_AT_START, UNKNOWN_NAME, TOO_MANY, SYNTAX};
        for (int i = 0; i < texts.length; i++) {
            ContractMachine x = used();
            ContractMachine y = used();
            Bench.feed(x, texts[i]);
            due("loadMachine() of " + texts[i], x.loadMachine(), NONE);
            due("errorCode()", x.errorCode(), codes[i]);
            due("errorOffset() is told", x.errorOffset() == NONE, false);
            // Another text with the same error makes the two alike but for what must not have changed.
            String report = " errors " + x.errorCode() + " " + x.errorOffset();
            due("all else", fate(x).replace(report, " errors 0 -1"), fate(y));
        }
    }

    // ---- promise 5

    private static void runScript() {
        promise(5, "Parses the input buffer as a script (section 8) and empties the buffer in any case.");
        ContractMachine x = new ContractMachine();
        for (String text : new String[] {"reset;", "", "bad", "fire coin;fire", "set coins 9;"}) {
            Bench.script(x, text);
            due("truncateInput(1) after runScript() of " + text, x.truncateInput(1), false);
        }
        due("runScript() of an empty buffer", x.runScript(), 0);
        promise(5, "If the text has no error, its statements are executed in order, like the methods fire, setValue, reset and clearCoverage.");
        ContractMachine y = new ContractMachine();
        ContractMachine z = new ContractMachine();
        due("runScript()", Bench.script(y, "clear;fire coin;fire push;set cups 0;fire coin;fire push;reset;fire coin;set coins 3;fire coin;"), 10);
        z.clearCoverage();
        z.fire(0);
        z.fire(1);
        z.setValue(1, 0);
        z.fire(0);
        z.fire(1);
        z.reset();
        z.fire(0);
        z.setValue(0, 3);
        z.fire(0);
        due("the standing", standing(y), standing(z));
        due("runScript() of clear", Bench.script(y, "clear;"), 1);
        z.clearCoverage();
        due("the standing after clear", standing(y), standing(z));
        stops();
        oneChange();
        promise(5, "Returns the number of statements that were executed, or NONE if the text has an error.");
        scriptRuns("", 0);
        scriptRuns("reset;", 1);
        scriptRuns(times(30, "fire e;"), 30);
        scriptFails("reset;reset", SYNTAX, 11);
        ContractMachine w = used();
        due("runScript() with an error", Bench.script(w, "reset;clear;set coins 1;fire cups;"), NONE);
        due("errorCode()", w.errorCode(), UNKNOWN_NAME);
        due("what it left", fate(w).replace(" errors 4 29", " errors 0 -1"), fate(used()));
    }

    private static void stops() {
        promise(5, "Execution ends at the first statement whose method would throw; that statement has no effect.");
        ContractMachine x = new ContractMachine();
        due("at the first statement", Bench.script(x, "set coins 6;reset;fire coin;"), 0);
        due("the standing after it", standing(x), standing(new ContractMachine()));
        due("errorCode()", x.errorCode(), 0);
        due("in the middle", Bench.script(x, "set coins 5;set cups 9;set cups 0;fire take;"), 2);
        due("the configuration", Bench.configuration(x), "idle coins=5 cups=9");
        due("at the last", Bench.script(x, "set cups 1;set cups 0;"), 1);
        due("the configuration after the last", Bench.configuration(x), "idle coins=5 cups=1");
        due("at the 30th", Bench.script(x, times(29, "reset;") + "set coins 6;"), 29);
        x.fire(0);
        due("where no invariant binds", Bench.script(x, "set cups 0;set cups 9;"), 2);
        promise(5, "A rejected event does not end it.");
        ContractMachine y = new ContractMachine();
        due("each verdict", Bench.script(y, "fire push;fire take;fire coin;fire push;set coins 5;fire coin;reset;fire coin;"), 8);
        due("rejectedCount()", y.rejectedCount(), 4);
        due("acceptedCount()", y.acceptedCount(), 2);
        due("rejectedWith(INVARIANT_BROKEN)", y.rejectedWith(INVARIANT_BROKEN), 1);
    }

    private static void oneChange() {
        promise(5, "If the text has no error, the whole script is one change.");
        ContractMachine x = new ContractMachine();
        x.fire(0);
        String before = standing(x);
        Bench.script(x, times(25, "fire coin;") + "reset;clear;set coins 2;");
        due("undo()", x.undo(), 1);
        due("the standing", standing(x), before);
        Bench.script(x, "set coins 6;");
        due("undo() of a script of which nothing was executed", x.undo(), 1);
        Bench.script(x, "");
        due("undo() of an empty script", x.undo(), 1);
        Bench.script(x, "set coins 2;set coins 6;");
        due("undo() of a script that stopped", x.undo(), 1);
        due("the standing after all", standing(x), before);
        for (int i = 0; i < 9; i++) {
            Bench.script(x, "fire coin;fire push;");
        }
        due("undo() of the latest of many", x.undo(), 7);
    }

    // ---- promises 6 and 7

    private static void errorCode() {
        promise(6, "Returns the error code of the latest call of loadMachine or runScript.");
        ContractMachine x = new ContractMachine();
        String[] texts = {"bad", "state a;event e;var v 10;", "state a;state a;", WHOLE + "on q", times(9, "event #;"), "", WHOLE + "always v below 1;"};
        int[] offsets = {0, 22, 14, AT + 3, 64, 0, AT + 17};
        for (int i = 0; i < texts.length; i++) {
            Bench.feed(x, texts[i]);
            x.loadMachine();
            due("errorCode() of loadMachine of " + texts[i], x.errorCode(), i + 1);
        }
        Bench.script(x, "set cups 10;");
        due("errorCode() of runScript", x.errorCode(), OUT_OF_RANGE);
        x.loadMachine();
        due("errorCode() of loadMachine behind it", x.errorCode(), INCOMPLETE);
        promise(6, "Returns the error code; NO_ERROR if that call found no error or there was no such call.");
        due("errorCode() of a new object", new ContractMachine().errorCode(), 0);
        Bench.script(x, "set coins 9;");
        due("errorCode() of a script that stopped", x.errorCode(), 0);
        Bench.script(x, "bad");
        x.runScript();
        due("errorCode() of an empty script", x.errorCode(), 0);
        Bench.script(x, "bad");
        Bench.feed(x, WHOLE);
        x.loadMachine();
        due("errorCode() of a good setup", x.errorCode(), 0);
        promise(7, "Returns the error offset of the latest call of loadMachine or runScript.");
        for (int i = 0; i < texts.length; i++) {
            Bench.feed(x, texts[i]);
            x.loadMachine();
            due("errorOffset() of loadMachine of " + texts[i], x.errorOffset(), offsets[i]);
        }
        Bench.script(x, "  bad");
        due("errorOffset() of runScript", x.errorOffset(), 2);
        x.saveState();
        x.fire(0);
        x.undo();
        x.reset();
        x.restoreState();
        append(x);
        due("errorOffset() after other calls", x.errorOffset(), 2);
    }

    private static void errorOffset() {
        promise(7, "Returns the offset; NONE if errorCode() is NO_ERROR.");
        ContractMachine x = new ContractMachine();
        due("errorOffset() of a new object", x.errorOffset(), NONE);
        Bench.script(x, "bad");
        due("errorOffset() of an error at the start", x.errorOffset(), 0);
        Bench.script(x, "reset;");
        due("errorOffset() of a good script", x.errorOffset(), NONE);
        Bench.script(x, "bad");
        Bench.feed(x, WHOLE);
        x.loadMachine();
        due("errorOffset() of a good setup", x.errorOffset(), NONE);
    }

    private TextSentences() {
    }
}
