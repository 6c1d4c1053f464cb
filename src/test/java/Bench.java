/** What the tests share: feeding texts, and telling every answer that is not the one that is due. */
final class Bench {
    static final String FIRST_SETUP =
        "state idle;state busy;state full;event coin;event push;event take;var coins 0;var cups 3;"
        + "on idle coin goto busy do coins add 1;on busy coin goto full when coins above 2 do coins add 1;"
        + "on busy coin goto busy do coins add 1;on busy push goto idle when coins atleast 2 do cups sub 1;"
        + "on full push goto idle do coins set 0;on idle take goto idle do coins sub 1;"
        + "always coins atmost 5;inside idle cups atleast 1;";

    interface Call {
        long answer();
    }

    private static int checked = 0;
    private static int wrong = 0;

    static void due(int promise, String call, double got, double want) {
        checked++;
        if (got != want) {
            wrong++;
            System.out.println("promise " + promise + ": " + call + " answered " + got + ", due is " + want);
        }
    }

    static void due(int promise, String call, boolean got, boolean want) {
        due(promise, call, got ? 1 : 0, want ? 1 : 0);
    }

    static void dueThrow(int promise, String call, Class<?> want, Call made) {
        checked++;
        String got;
        try {
            got = "" + made.answer();
        } catch (RuntimeException e) {
            if (e.getClass() == want) {
                return;
            }
            got = e.toString();
        }
        wrong++;
        System.out.println("promise " + promise + ": " + call + " answered " + got + ", due is " + want.getName());
    }

    static void dueIndex(int promise, String call, Call made) {
        dueThrow(promise, call, IndexOutOfBoundsException.class, made);
    }

    static void dueArgument(int promise, String call, Call made) {
        dueThrow(promise, call, IllegalArgumentException.class, made);
    }

    static void dueState(int promise, String call, Call made) {
        dueThrow(promise, call, IllegalStateException.class, made);
    }

    static void dueElement(int promise, String call, Call made) {
        dueThrow(promise, call, java.util.NoSuchElementException.class, made);
    }

    /** Appends the text in pieces of 20 bytes and cuts off what fills the last one up. */
    static void feed(ContractMachine x, String text) {
        int before = 0;
        while (!x.truncateInput(before) || x.truncateInput(before + 1)) {
            before++;
        }
        for (int i = 0; i < text.length(); i += 20) {
            int[] words = new int[5];
            for (int k = 0; k < 20; k++) {
                int b = i + k < text.length() ? text.charAt(i + k) : ' ';
                words[k / 4] = words[k / 4] << 8 | b;
            }
            x.appendInput(words[0], words[1], words[2], words[3], words[4]);
        }
        if (!x.truncateInput(before + text.length())) {
            throw new IllegalStateException("a text of the test is too long: " + text);
        }
    }

    static ContractMachine machine(String setup) {
        ContractMachine x = new ContractMachine();
        feed(x, setup);
        if (x.loadMachine() == ContractMachine.NONE) {
            throw new IllegalStateException("error " + x.errorCode() + " at " + x.errorOffset() + " in " + setup);
        }
        return x;
    }

    static int script(ContractMachine x, String text) {
        feed(x, text);
        return x.runScript();
    }

    static String output(ContractMachine x) {
        StringBuilder text = new StringBuilder();
        for (int i = 0; x.outputByte(i) != ContractMachine.NONE; i++) {
            text.append((char) x.outputByte(i));
        }
        return text.toString();
    }

    /** What writeConfiguration writes; it changes the output and nothing else. */
    static String configuration(ContractMachine x) {
        x.writeConfiguration();
        return output(x);
    }

    static void dueText(int promise, String call, String got, String want) {
        checked++;
        if (!got.equals(want)) {
            wrong++;
            System.out.println("promise " + promise + ": " + call + " answered " + got + ", due is " + want);
        }
    }

    static void end(String name) {
        System.out.println(name + ": " + checked + " answers, " + wrong + " not as due");
        if (wrong != 0 || checked == 0) {
            System.exit(1);
        }
    }

    private Bench() {
    }
}
