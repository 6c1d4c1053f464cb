import java.lang.reflect.InvocationTargetException;
import java.lang.reflect.Method;
import java.lang.reflect.Modifier;
import java.util.ArrayList;
import java.util.Arrays;
import java.util.Comparator;
import java.util.List;
import java.util.Random;

/** Random runs of calls on the class and on PlainMachine: every call must answer, or throw, the same in both. */
final class RandomRunsTest {
    private static final String[] OPERATORS = {"below", "atmost", "equals", "differs", "atleast", "above"};
    private static final String[] SPOILS = {"", ";", " ", "5", "10", "1000", "x", "abcdefg", "abcdefghi", "when", "do", "goto", "on",
        "state", "\t", "\n", "" + (char) 200, "set", "set v 3;", "reset;", "state a;", "event z;"};
    private static final int CALLS = 420;

    private final Random random;
    private final ContractMachine real = new ContractMachine();
    private final PlainMachine plain = new PlainMachine();
    private final List<String> log = new ArrayList<>();
    private int calls;

    private RandomRunsTest(long seed) {
        random = new Random(seed);
    }

    public static void main(String[] args) throws Exception {
        int runs = args.length > 0 ? Integer.parseInt(args[0]) : 1500;
        int calls = 0;
        for (int seed = 0; seed < runs; seed++) {
            RandomRunsTest run = new RandomRunsTest(seed);
            if (!run.isSame()) {
                System.out.println("run " + seed + ":\n  " + String.join("\n  ", run.log));
                System.exit(1);
            }
            calls += run.calls;
        }
        System.out.println("RandomRunsTest: " + runs + " runs, " + calls + " calls, all the same");
    }

    private boolean isSame() throws Exception {
        List<Method> face = face();
        // Some runs begin with the machine of a new object, most with another.
        boolean same = random.nextInt(4) == 0 || feedAndCall(setup(), "loadMachine");
        while (same && calls < CALLS) {
            int kind = random.nextInt(100);
            if (kind < 2) {
                same = feedAndCall(setup(), "loadMachine");
            } else if (kind < 8) {
                same = feedAndCall(script(), "runScript");
            } else if (kind < 40) {
                same = call("fire", random.nextInt(Math.max(1, plain.eventCount())));
            } else {
                same = callSomething(face.get(random.nextInt(face.size())));
            }
        }
        return same;
    }

    private static List<Method> face() {
        List<Method> face = new ArrayList<>();
        for (Method m : ContractMachine.class.getDeclaredMethods()) {
            // Texts come by feedAndCall, or else there would never be a whole one.
            if (Modifier.isPublic(m.getModifiers()) && !List.of("loadMachine", "runScript", "appendInput").contains(m.getName())) {
                face.add(m);
            }
        }
        face.sort(Comparator.comparing(Method::getName));
        return face;
    }

    private boolean callSomething(Method m) throws Exception {
        // A change that takes back too much would keep every run near its start.
        if (List.of("reset", "clearCoverage", "restoreState").contains(m.getName()) && random.nextInt(3) > 0) {
            return true;
        }
        int[] values = new int[m.getParameterCount()];
        for (int i = 0; i < values.length; i++) {
            values[i] = argument();
        }
        if (m.getName().equals("addAlways") && random.nextBoolean()) {
            values[0] = random.nextInt(Math.max(1, plain.variableCount()));
            values[1] = random.nextInt(6);
            values[2] = random.nextInt(10);
        }
        return call(m.getName(), values);
    }

    private int argument() {
        int kind = random.nextInt(20);
        if (kind == 0) {
            return new int[] {Integer.MIN_VALUE, Integer.MAX_VALUE, -1, 24, 700, 32, 256}[random.nextInt(7)];
        }
        return kind < 10 ? random.nextInt(3) : kind < 18 ? random.nextInt(12) : random.nextInt(40) - 2;
    }

    private boolean feedAndCall(String text, String method) throws Exception {
        boolean same = true;
        for (int i = 0; i < text.length(); i += 20) {
            int[] words = new int[5];
            for (int k = 0; k < 20; k++) {
                words[k / 4] = words[k / 4] << 8 | (i + k < text.length() ? text.charAt(i + k) : random.nextInt(256));
            }
            same = same && call("appendInput", words);
        }
        // Nearly always cut to the text; else random bytes follow it.
        if (random.nextInt(50) > 0) {
            same = same && call("truncateInput", text.length());
        }
        log.add(method + " of " + text);
        return same && call(method) && call("errorCode") && call("errorOffset");
    }

    private boolean call(String name, int... values) throws Exception {
        Object got = answer(ContractMachine.class, real, name, values);
        Object want = answer(PlainMachine.class, plain, name, values);
        calls++;
        log.add(name + Arrays.toString(values) + " answered " + got + ", due is " + want);
        return got.equals(want);
    }

    private static Object answer(Class<?> type, Object on, String name, int[] values) throws Exception {
        Class<?>[] types = new Class<?>[values.length];
        Object[] boxed = new Object[values.length];
        for (int i = 0; i < values.length; i++) {
            types[i] = int.class;
            boxed[i] = values[i];
        }
        try {
            return type.getDeclaredMethod(name, types).invoke(on, boxed);
        } catch (InvocationTargetException e) {
            return "throws " + e.getCause().getClass().getName();
        }
    }

    // ---- texts

    private String name(String kind, int index) {
        String[] names = {"a", "b", "cc", "ddd", "e", "f", "on", "goto", "i", "jjjjjj"};
        return kind.isEmpty() ? "zz" : names[index % names.length];
    }

    /** Mostly a whole machine; now and then spoilt somewhere. */
    private String setup() {
        int states = 1 + random.nextInt(random.nextInt(8) == 0 ? 10 : 4);
        int events = 1 + random.nextInt(random.nextInt(8) == 0 ? 8 : 4);
        int variables = 1 + random.nextInt(random.nextInt(3) == 0 ? 3 : 2);
        StringBuilder text = new StringBuilder();
        for (int i = 0; i < states; i++) {
            text.append("state ").append(name("s", i)).append(';');
        }
        for (int i = 0; i < events; i++) {
            text.append("event ").append(name("e", i)).append(';');
        }
        for (int i = 0; i < variables; i++) {
            text.append("var ").append(name("v", i)).append(' ').append(random.nextInt(10)).append(';');
        }
        int statements = random.nextInt(random.nextInt(6) == 0 ? 38 : 14);
        for (int i = 0; i < statements; i++) {
            String statement = statement(states, events, variables);
            text.append(text.length() + statement.length() <= 700 ? statement : "");
        }
        return spoilt(text);
    }

    private String statement(int states, int events, int variables) {
        int kind = random.nextInt(12);
        if (kind == 0) {
            return "always " + comparison(variables, true) + ";";
        }
        if (kind == 1) {
            return "inside " + name("s", random.nextInt(states)) + " " + comparison(variables, true) + ";";
        }
        StringBuilder on = new StringBuilder("on ").append(name("s", random.nextInt(states))).append(' ')
            .append(name("e", random.nextInt(events))).append(" goto ").append(name("s", random.nextInt(states)));
        if (random.nextInt(3) == 0) {
            on.append(" when ").append(comparison(variables, false));
        }
        if (random.nextInt(3) > 0) {
            on.append(" do ").append(name("v", random.nextInt(variables))).append(' ')
                .append(new String[] {"add", "sub", "set"}[random.nextInt(3)]).append(' ').append(random.nextInt(5));
        }
        return on.append(';').toString();
    }

    /** Comparisons for invariants mostly leave much room, or hardly a machine would begin. */
    private String comparison(int variables, boolean isWide) {
        int operator = random.nextInt(6);
        int constant = random.nextInt(10);
        if (isWide && random.nextInt(4) > 0) {
            operator = new int[] {0, 1, 3, 4, 5}[random.nextInt(5)];
            constant = operator <= 1 ? 7 + random.nextInt(3) : operator == 3 ? random.nextInt(10) : random.nextInt(2);
        }
        return name("v", random.nextInt(variables)) + " " + OPERATORS[operator] + " " + constant;
    }

    private String script() {
        StringBuilder text = new StringBuilder();
        int statements = random.nextInt(random.nextInt(5) == 0 ? 33 : 12);
        for (int i = 0; i < statements; i++) {
            int kind = random.nextInt(12);
            if (kind < 8) {
                text.append("fire ").append(given("event", plain.eventCount()));
            } else if (kind < 10) {
                text.append("set ").append(given("variable", plain.variableCount())).append(' ').append(random.nextInt(10));
            } else {
                text.append(kind == 10 ? "reset" : "clear");
            }
            text.append(';');
        }
        return spoilt(text);
    }

    private String given(String kind, int count) {
        int index = random.nextInt(count);
        StringBuilder name = new StringBuilder();
        for (int i = 0; i < 6; i++) {
            int letter = kind.equals("event") ? plain.eventNameByte(index, i) : plain.variableNameByte(index, i);
            if (letter >= 0) {
                name.append((char) letter);
            }
        }
        return name.toString();
    }

    private String spoilt(StringBuilder text) {
        int spoils = random.nextInt(4) == 0 ? 1 + random.nextInt(2) : 0;
        for (int i = 0; i < spoils; i++) {
            int at = random.nextInt(text.length() + 1);
            int end = Math.min(text.length(), at + random.nextInt(3));
            text.replace(at, end, SPOILS[random.nextInt(SPOILS.length)]);
        }
        if (random.nextInt(30) == 0) {
            text.setLength(random.nextInt(text.length() + 1));
        }
        text.setLength(Math.min(text.length(), 700));
        return text.toString();
    }
}
