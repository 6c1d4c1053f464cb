import java.io.DataInputStream;
import java.io.IOException;
import java.io.InputStream;
import java.lang.reflect.Field;
import java.lang.reflect.Method;
import java.lang.reflect.Modifier;
import java.nio.file.Files;
import java.nio.file.Path;
import java.util.ArrayList;
import java.util.List;
import java.util.Set;
import java.util.TreeSet;
import java.util.regex.Pattern;
import java.util.stream.Collectors;
import java.util.stream.Stream;

/** The face is the document's, to the letter, and the class keeps to what ../shared/LANGUAGE.md leaves. */
final class FaceTest {
    private static final Path SOURCE = Path.of("src/main/java/ContractMachine.java");
    private static final Set<String> LIBRARY = Set.of("java/lang/Object.<init>", "java/lang/String.length",
        "java/lang/String.charAt", "java/util/Arrays.fill", "java/lang/System.arraycopy",
        "java/lang/IndexOutOfBoundsException.<init>", "java/lang/IllegalArgumentException.<init>",
        "java/lang/IllegalStateException.<init>", "java/util/NoSuchElementException.<init>");

    private static int wrong = 0;
    private static int checked = 0;

    public static void main(String[] args) throws Exception {
        face();
        List<Class<?>> all = new ArrayList<>(List.of(ContractMachine.class.getDeclaredClasses()));
        all.add(ContractMachine.class);
        due("at most twelve classes", all.size() <= 12);
        for (Class<?> c : all) {
            size(c);
            library(c);
        }
        source();
        System.out.println("FaceTest: " + checked + " checks, " + wrong + " not as due");
        if (wrong != 0) {
            System.exit(1);
        }
    }

    private static void due(String what, boolean holds) {
        checked++;
        if (!holds) {
            wrong++;
            System.out.println("not as due: " + what);
        }
    }

    private static void face() throws IOException {
        Set<String> want = new TreeSet<>();
        for (String line : Face.linesOfDocument()) {
            if (Face.isMember(line)) {
                want.add(Face.withoutNames(line));
            }
        }
        Set<String> got = Face.ofClass();
        Class<?> c = ContractMachine.class;
        due("the class is public and final", Modifier.isPublic(c.getModifiers()) && Modifier.isFinal(c.getModifiers()));
        due("the document's face has 20 constants, the constructor and 59 methods", want.size() == 80);
        due("the face: " + got + "\nis not the document's: " + want, got.equals(want));
    }

    private static void size(Class<?> c) {
        int fields = 0;
        for (Field f : c.getDeclaredFields()) {
            due(c + "." + f.getName() + " is static, but not final",
                !Modifier.isStatic(f.getModifiers()) || Modifier.isFinal(f.getModifiers()));
            fields += Modifier.isStatic(f.getModifiers()) ? 0 : 1;
        }
        due(c + " has some twenty fields at most", fields <= 20);
        Set<String> open = Stream.of(ContractMachine.class.getDeclaredMethods())
            .filter(m -> Modifier.isPublic(m.getModifiers())).map(Method::getName).collect(Collectors.toSet());
        for (Method m : c.getDeclaredMethods()) {
            due(c + "." + m.getName() + " has seven parameters at most", m.getParameterCount() <= 7);
            due(c + "." + m.getName() + " bears the name of a public one",
                !Modifier.isPrivate(m.getModifiers()) || !open.contains(m.getName()));
        }
    }

    /** Reads the class file's constants, where every method that is called stands with its class. */
    private static void library(Class<?> c) throws IOException {
        String file = c.getName() + ".class";
        try (InputStream bytes = c.getResourceAsStream(file); DataInputStream in = new DataInputStream(bytes)) {
            in.readLong();
            int count = in.readUnsignedShort();
            String[] text = new String[count];
            int[][] refs = new int[count][];
            for (int i = 1; i < count; i++) {
                int tag = in.readUnsignedByte();
                switch (tag) {
                    case 1 -> text[i] = in.readUTF();
                    case 3, 4 -> in.readInt();
                    case 5, 6 -> {
                        in.readLong();
                        i++;
                    }
                    case 7, 8, 16 -> refs[i] = new int[] {tag, in.readUnsignedShort()};
                    case 9, 10, 11, 12, 17, 18 -> refs[i] = new int[] {tag, in.readUnsignedShort(), in.readUnsignedShort()};
                    default -> throw new IOException("tag " + tag);
                }
            }
            for (int[] r : refs) {
                due(c + " calls by invokedynamic", r == null || r[0] != 18);
                if (r != null && (r[0] == 10 || r[0] == 11)) {
                    String owner = text[refs[r[1]][1]];
                    String call = owner + "." + text[refs[r[2]][1]];
                    due(c + " calls " + call, owner.startsWith("ContractMachine") || LIBRARY.contains(call));
                }
            }
        }
    }

    private static void source() throws IOException {
        String source = Files.readString(SOURCE);
        due("signs 1 to 127 alone", source.chars().allMatch(sign -> sign > 0 && sign < 128));
        String code = source.replaceAll("(?s)/\\*.*?\\*/", "").replaceAll("//[^\n]*", "").replaceAll("\"[^\"\n]*\"", "\"\"");
        for (String ruledOut : new String[] {"->", "::", "\\bfinally\\b", "\\bsynchronized\\b", "\\bassert\\b", "\\bcatch\\b",
            "\\btry\\b", "\\bpackage\\b", "static \\{", "\\bvolatile\\b", "\"\" *\\+", "\\+ *\"\""}) {
            due("the source holds " + ruledOut, !Pattern.compile(ruledOut).matcher(code).find());
        }
        for (String line : code.split("\n")) {
            // An array or object is made with its field, or in History's constructor; an exception is thrown at once.
            due("made outside of a constructor: " + line.trim(), !line.matches(".*\\bnew .*")
                || line.matches(" {4}( {4})?private (final )?\\S+ \\w+ = new .*;| {8}final \\S+ \\w+ = new .*;")
                || line.contains("throw new ") || line.equals("                past[i] = new Standing();"));
        }
        int length = 0;
        String method = "";
        for (String line : source.split("\n")) {
            if (line.matches(" {4}( {4})?\\S.*\\) (throws .*)?\\{")) {
                method = line.trim();
                length = 0;
            }
            length++;
            if (line.matches(" {4}( {4})?\\}") && !method.isEmpty()) {
                due(method + " has some sixty lines at most", length <= 60);
                method = "";
            }
        }
    }

    private FaceTest() {
    }
}
