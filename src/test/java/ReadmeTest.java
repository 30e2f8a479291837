import java.io.IOException;
import java.lang.reflect.Method;
import java.lang.reflect.Modifier;
import java.net.URL;
import java.net.URLClassLoader;
import java.nio.file.Files;
import java.nio.file.Path;
import java.util.ArrayList;
import java.util.List;
import java.util.Set;
import java.util.TreeSet;
import java.util.regex.Matcher;
import java.util.regex.Pattern;

/** The code of README.md compiles, its calls answer as it says, and its table of calls is that of the document. */
public final class ReadmeTest {
    private static final Checks CHECKS = new Checks();
    private static final Path PAGE = Path.of("README.md");
    private static final Path DOCUMENT = Path.of("../shared/DOC.md");
    private static final Pattern BLOCK = Pattern.compile("(?ms)^```java\n(.*?)^```$");
    private static final Pattern STATEMENT = Pattern.compile(
            "(?:(\\w+) (\\w+) = )?(.+);(?: +// (throws )?([^:]+)(: .*)?)?");
    private static final Pattern CALL = Pattern.compile("\\bpacks\\.(\\w+)\\(");

    private ReadmeTest() {
    }

    public static void main(String[] args) throws Exception {
        String page = Files.readString(PAGE);
        run(program(page));
        tableOfStatements(page);
        tableOfCalls(page);
        tableOfAnswers(page);
        CHECKS.end("ReadmeTest");
    }

    /** Makes one program of the blocks; each answer behind a call becomes a check of it. */
    private static String program(String page) {
        StringBuilder members = new StringBuilder();
        StringBuilder statements = new StringBuilder();
        Set<String> called = new TreeSet<>();
        Matcher block = BLOCK.matcher(page);
        while (block.find()) {
            if (block.group(1).contains("static ")) {
                members.append(block.group(1));
            } else {
                block.group(1).lines().forEach(line -> statements.append(checked(line, called)).append('\n'));
            }
        }
        for (Method method : PackLoans.class.getDeclaredMethods()) {
            if (Modifier.isPublic(method.getModifiers())) {
                CHECKS.yes("README.md shows a call of " + method.getName(), called.contains(method.getName())
                        || members.indexOf("packs." + method.getName() + "(") >= 0);
            }
        }
        return "public final class Page {\n"
                + "static final int NONE = PackLoans.NONE, FULL = PackLoans.FULL;\n"
                + "static final int WRONG_STATE = PackLoans.WRONG_STATE, TOO_LATE = PackLoans.TOO_LATE;\n"
                + members + "public static void run() {\n" + statements + "}\n}\n";
    }

    private static String checked(String line, Set<String> called) {
        Matcher statement = STATEMENT.matcher(line);
        if (line.isBlank() || !statement.matches()) {
            CHECKS.yes("a statement of README.md: " + line, line.isBlank());
            return "";
        }
        String type = statement.group(1);
        String call = statement.group(3);
        String answer = statement.group(5);
        Matcher name = CALL.matcher(call);
        if (name.find()) {
            called.add(name.group(1));
        }
        if (answer == null) {
            CHECKS.yes("README.md says what this answers: " + line, call.equals("new PackLoans()"));
            return type + " " + statement.group(2) + " = " + call + ";";
        }
        String shown = '"' + call.replace("\\", "\\\\").replace("\"", "\\\"") + '"';
        if (statement.group(4) != null) {
            return "try { " + call + "; ReadmeTest.thrown(" + shown + ", null, " + answer + ".class); }"
                    + " catch (RuntimeException e) { ReadmeTest.thrown(" + shown + ", e, " + answer + ".class); }";
        }
        if (type != null) {
            return type + " " + statement.group(2) + " = " + call + "; ReadmeTest.answered(" + shown + ", "
                    + statement.group(2) + ", " + answer + ");";
        }
        return "ReadmeTest.answered(" + shown + ", " + call + ", " + answer + ");";
    }

    public static void answered(String call, long got, long due) {
        CHECKS.same("README.md, " + call, got, due);
    }

    public static void answered(String call, double got, double due) {
        CHECKS.same("README.md, " + call, got, due);
    }

    public static void answered(String call, boolean got, boolean due) {
        CHECKS.same("README.md, " + call, got ? 1 : 0, due ? 1 : 0);
    }

    public static void thrown(String call, RuntimeException got, Class<?> due) {
        CHECKS.yes("README.md, " + call + " throws " + due.getSimpleName() + ", not " + got,
                got != null && got.getClass() == due);
    }

    private static void run(String program) throws Exception {
        Path place = Files.createTempDirectory("readme");
        Path source = place.resolve("Page.java");
        try {
            Files.writeString(source, program);
            int answer = new ProcessBuilder("javac", "--release", "17", "-d", place.toString(), "-cp",
                    System.getProperty("java.class.path"), source.toString()).inheritIO().start().waitFor();
            CHECKS.same("the compiler's answer to the code of README.md", answer, 0);
            if (answer == 0) {
                try (URLClassLoader loader = new URLClassLoader(new URL[] {place.toUri().toURL()})) {
                    loader.loadClass("Page").getMethod("run").invoke(null);
                }
            }
        } finally {
            Files.deleteIfExists(place.resolve("Page.class"));
            Files.deleteIfExists(source);
            Files.deleteIfExists(place);
        }
    }

    private static List<String> ranges(String text) {
        List<String> ranges = new ArrayList<>();
        Matcher range = Pattern.compile("\\w+ to \\w+").matcher(text);
        while (range.find()) {
            ranges.add(range.group());
        }
        return ranges;
    }

    /** Each statement with the ranges of its numbers, and how many there can be, as the document has them. */
    private static void tableOfStatements(String page) throws IOException {
        String document = Files.readString(DOCUMENT);
        Matcher row = Pattern.compile("(?m)^\\| `([a-z]+ [A-Z].*)` \\| (.*) \\| (\\d+).* \\|$").matcher(page);
        int rows = 0;
        while (row.find()) {
            rows++;
            Matcher due = Pattern.compile("(?m)^" + Pattern.quote(row.group(1)) + " - (.*?)(?:; at most (\\d+).*)?$")
                    .matcher(document);
            CHECKS.yes(row.group(1) + " is a statement of the document", due.find());
            CHECKS.yes("the ranges of " + row.group(1), ranges(row.group(2)).equals(ranges(due.group(1))));
            CHECKS.yes("how many statements " + row.group(1), row.group(3).equals(due.group(2) == null ? "1"
                    : due.group(2)));
        }
        CHECKS.same("statements in the table", rows, 7);
    }

    /** Each line of the document's face as the table has it: the call with its arguments, and what it throws. */
    private static void tableOfCalls(String page) throws IOException {
        List<String> due = new ArrayList<>();
        Matcher face = Pattern.compile("(?m)^    public [a-z]+ ([a-zA-Z]+\\(.*\\))(?: throws (.*))?;$")
                .matcher(Files.readString(DOCUMENT));
        while (face.find()) {
            String thrown = face.group(2) == null ? "" : face.group(2).replace("IndexOutOfBoundsException", "index")
                    .replace("IllegalArgumentException", "argument");
            due.add(face.group(1).replaceAll("\\b(int|long) ", "") + " throws " + thrown);
        }
        List<String> got = new ArrayList<>();
        Matcher row = Pattern.compile("(?m)^\\| `(\\w+\\(.*?\\))` \\|.*\\| ([a-z, ]*)\\|$").matcher(page);
        while (row.find()) {
            got.add(row.group(1) + " throws " + row.group(2).strip());
        }
        CHECKS.same("calls in the table", got.size(), due.size());
        for (int i = 0; i < Math.min(got.size(), due.size()); i++) {
            CHECKS.yes("README.md has '" + got.get(i) + "', due is '" + due.get(i) + "'",
                    got.get(i).equals(due.get(i)));
        }
    }

    private static void tableOfAnswers(String page) {
        CHECKS.yes("NONE", page.contains("\n| `NONE` (" + PackLoans.NONE + ") |"));
        CHECKS.yes("FULL", page.contains("\n| `FULL` (" + PackLoans.FULL + ") |"));
        CHECKS.yes("WRONG_STATE", page.contains("\n| `WRONG_STATE` (" + PackLoans.WRONG_STATE + ") |"));
        CHECKS.yes("TOO_LATE", page.contains("\n| `TOO_LATE` (" + PackLoans.TOO_LATE + ") |"));
    }
}
