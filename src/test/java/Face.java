import java.io.IOException;
import java.lang.reflect.Constructor;
import java.lang.reflect.Field;
import java.lang.reflect.Method;
import java.lang.reflect.Modifier;
import java.nio.file.Files;
import java.nio.file.Path;
import java.util.ArrayList;
import java.util.List;
import java.util.Set;
import java.util.TreeSet;
import java.util.stream.Collectors;
import java.util.stream.Stream;

/** The face as the document writes it, line by line, and as the class has it, each member as such a line. */
final class Face {
    static List<String> linesOfDocument() throws IOException {
        String document = Files.readString(Path.of("../shared/DOC.md"));
        String block = document.substring(document.indexOf("```java") + 7);
        List<String> lines = new ArrayList<>();
        for (String line : block.substring(0, block.indexOf("\n```")).split("\n")) {
            if (!line.isBlank()) {
                lines.add(line.trim());
            }
        }
        return lines;
    }

    static boolean isMember(String line) {
        return line.startsWith("public ") && line.endsWith(";");
    }

    /** The names of parameters are no part of a class: they are left out. */
    static String withoutNames(String line) {
        return line.replaceAll("(int|boolean) [a-z]+(?=[,)])", "$1");
    }

    static Set<String> ofClass() {
        Set<String> face = new TreeSet<>();
        Class<?> c = ContractMachine.class;
        for (Field f : c.getDeclaredFields()) {
            if (!Modifier.isPrivate(f.getModifiers())) {
                face.add(Modifier.toString(f.getModifiers()) + " " + f.getType() + " " + f.getName() + " = " + value(f) + ";");
            }
        }
        for (Constructor<?> m : c.getDeclaredConstructors()) {
            face.add(Modifier.toString(m.getModifiers()) + " ContractMachine(" + names(m.getParameterTypes()) + ")"
                + thrown(m.getExceptionTypes()) + ";");
        }
        for (Method m : c.getDeclaredMethods()) {
            if (!Modifier.isPrivate(m.getModifiers())) {
                face.add(Modifier.toString(m.getModifiers()) + " " + m.getReturnType() + " " + m.getName() + "("
                    + names(m.getParameterTypes()) + ")" + thrown(m.getExceptionTypes()) + ";");
            }
        }
        return face;
    }

    private static String thrown(Class<?>[] types) {
        return types.length > 0 ? " throws " + names(types) : "";
    }

    private static String names(Class<?>[] types) {
        return Stream.of(types).map(Class::getSimpleName).collect(Collectors.joining(", "));
    }

    private static Object value(Field constant) {
        try {
            return constant.get(null);
        } catch (ReflectiveOperationException | NullPointerException e) {
            return "no constant";
        }
    }

    private Face() {
    }
}
