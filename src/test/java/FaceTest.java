import java.io.IOException;
import java.lang.reflect.Field;
import java.lang.reflect.Method;
import java.lang.reflect.Modifier;
import java.nio.file.Files;
import java.nio.file.Path;
import java.util.ArrayList;
import java.util.Arrays;
import java.util.List;
import java.util.Set;
import java.util.TreeSet;
import java.util.regex.Matcher;
import java.util.regex.Pattern;

/** The face is that of the document, and the class keeps to what can be checked of LANGUAGE.md. */
public final class FaceTest {
    private static final Checks CHECKS = new Checks();
    private static final Path SOURCE = Path.of("src/main/java/PackLoans.java");
    private static final Path DOCUMENT = Path.of("../shared/DOC.md");

    private FaceTest() {
    }

    public static void main(String[] args) throws IOException {
        constants();
        methods();
        classes();
        source();
        CHECKS.end("FaceTest");
    }

    private static void constants() {
        CHECKS.same("NONE", PackLoans.NONE, -1);
        CHECKS.same("FULL", PackLoans.FULL, -2);
        CHECKS.same("WRONG_STATE", PackLoans.WRONG_STATE, -3);
        CHECKS.same("TOO_LATE", PackLoans.TOO_LATE, -4);
        for (Field field : PackLoans.class.getDeclaredFields()) {
            boolean isPrivate = Modifier.isPrivate(field.getModifiers());
            boolean named = Set.of("NONE", "FULL", "WRONG_STATE", "TOO_LATE").contains(field.getName());
            CHECKS.yes("field " + field.getName() + " is private or of the document", isPrivate != named);
        }
    }

    /** The line that the document has for a method. */
    private static String line(Method method) {
        StringBuilder line = new StringBuilder("public ").append(method.getReturnType().getSimpleName()).append(' ')
                .append(method.getName()).append('(');
        String separator = "";
        for (Class<?> type : method.getParameterTypes()) {
            line.append(separator).append(type.getSimpleName());
            separator = ", ";
        }
        line.append(')');
        separator = " throws ";
        for (Class<?> type : method.getExceptionTypes()) {
            line.append(separator).append(type.getSimpleName());
            separator = ", ";
        }
        return line.append(';').toString();
    }

    private static void methods() throws IOException {
        Set<String> due = new TreeSet<>();
        Matcher lines = Pattern.compile("(?m)^    (public [a-z]+ [a-zA-Z]+\\(.*;)$")
                .matcher(Files.readString(DOCUMENT));
        while (lines.find()) {
            due.add(lines.group(1).replaceAll("(int|long) [a-z]+([,)])", "$1$2"));
        }
        CHECKS.same("methods of the document", due.size(), 45);
        Set<String> names = new TreeSet<>();
        for (Method method : PackLoans.class.getDeclaredMethods()) {
            if (Modifier.isPrivate(method.getModifiers())) {
                continue;
            }
            names.add(method.getName());
            CHECKS.yes(line(method) + " is of the document", due.remove(line(method)));
        }
        CHECKS.yes("all methods are there, but for " + due, due.isEmpty());
        List<Class<?>> all = new ArrayList<>(Arrays.asList(PackLoans.class.getDeclaredClasses()));
        all.add(PackLoans.class);
        for (Class<?> one : all) {
            for (Method method : one.getDeclaredMethods()) {
                boolean face = one == PackLoans.class && Modifier.isPublic(method.getModifiers());
                CHECKS.yes(one + " " + method.getName() + " bears no public name",
                        face || !names.contains(method.getName()));
            }
        }
    }

    private static void classes() {
        Class<?>[] inside = PackLoans.class.getDeclaredClasses();
        CHECKS.yes("at most 12 classes", inside.length < 12);
        for (Class<?> one : inside) {
            CHECKS.yes(one + " is private and static", Modifier.isPrivate(one.getModifiers())
                    && Modifier.isStatic(one.getModifiers()));
            int fields = 0;
            for (Field field : one.getDeclaredFields()) {
                boolean isStatic = Modifier.isStatic(field.getModifiers());
                fields += isStatic ? 0 : 1;
                CHECKS.yes(field + " is no state of the class", !isStatic || Modifier.isFinal(field.getModifiers()));
            }
            CHECKS.yes(one + " has at most 20 fields", fields <= 20);
        }
    }

    private static void source() throws IOException {
        String text = Files.readString(SOURCE);
        String code = text.replaceAll("/\\*(?s:.*?)\\*/", "").replaceAll("//.*", "");
        String[] forbidden = {"->", "::", "Exact", "catch", "finally", "synchronized", "assert", "instanceof", "enum ",
            "package ", "toString", "hashCode", "equals", "String.format", "System.out", "new Random", "Thread"};
        for (String word : forbidden) {
            CHECKS.yes("no " + word, !code.contains(word));
        }
        Matcher imports = Pattern.compile("(?m)^import (.*);$").matcher(code);
        while (imports.find()) {
            CHECKS.yes("import " + imports.group(1), imports.group(1).equals("java.util.Arrays"));
        }
        Matcher calls = Pattern.compile("\\b(Math|Arrays|System|Integer|Long)\\.(\\w+)").matcher(code);
        while (calls.find()) {
            CHECKS.yes(calls.group(), Set.of("Math.min", "Math.max", "Arrays.fill", "System.arraycopy")
                    .contains(calls.group()));
        }
        CHECKS.yes("signs of the text", code.chars().allMatch(sign -> sign == '\n' || sign >= ' ' && sign < 127));
        lengths(text);
    }

    private static void lengths(String text) {
        int from = -1;
        String[] lines = text.split("\n");
        for (int i = 0; i < lines.length; i++) {
            String line = lines[i];
            if (from < 0 && line.matches(" {4}(?: {4})?\\S.*\\) (?:throws [\\w, ]+ )?\\{")) {
                from = i;
            } else if (from >= 0 && line.strip().equals("}") && indent(line) == indent(lines[from])) {
                CHECKS.yes("the method at line " + (from + 1) + " is short", i - from < 60);
                from = -1;
            }
            CHECKS.yes("line " + (i + 1) + " is short", line.length() <= 120);
        }
    }

    private static int indent(String line) {
        return line.length() - line.stripLeading().length();
    }
}
