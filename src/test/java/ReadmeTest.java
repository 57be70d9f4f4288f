import java.io.IOException;
import java.lang.reflect.InvocationTargetException;
import java.lang.reflect.Method;
import java.nio.file.Files;
import java.nio.file.Path;
import java.util.ArrayList;
import java.util.List;
import java.util.regex.Matcher;
import java.util.regex.Pattern;

/** README.md: its example answers what it says, and its tables have the document's names, numbers and exceptions. */
public final class ReadmeTest {
    private static final Path PLACE = Path.of("README.md");
    private static final Pattern EXAMPLE = Pattern.compile("disk\\.(\\w+)\\(([^)]*)\\); +// ([^:]*): .*");

    /** How many numbers "what" has for fileOf, blockOf and count. */
    private static final int[] PROPERTIES = {7, 5, 12};

    private static int wrong = 0;
    private static int checks = 0;

    private ReadmeTest() {
    }

    private static void check(boolean right, String told) {
        checks++;
        if (!right) {
            wrong++;
            System.out.println("README.md: " + told);
        }
    }

    public static void main(String[] args) throws IOException, ReflectiveOperationException {
        List<String> lines = Files.readAllLines(PLACE);
        example(lines);
        calls(lines);
        properties(lines);
        orders(lines);
        tests(lines);
        System.out.println(wrong == 0 ? "README.md: " + checks + " of its lines hold" : wrong + " of its lines are wrong");
        if (wrong != 0) {
            System.exit(1);
        }
    }

    // ---- the example

    private static void example(List<String> lines) throws ReflectiveOperationException {
        int from = lines.indexOf("TailBlocks disk = new TailBlocks();") + 1;
        check(from > 0, "there is no example");
        TailBlocks disk = new TailBlocks();
        int at = from;
        while (at < lines.size() && !lines.get(at).equals("```")) {
            Matcher line = EXAMPLE.matcher(lines.get(at));
            check(line.matches(), "not a call with its answer: " + lines.get(at));
            if (line.matches()) {
                String got = answer(disk, line.group(1), line.group(2));
                check(got.equals(line.group(3)), line.group() + " answered " + got);
            }
            at++;
        }
        check(at > from + 20, "the example is too short");
    }

    private static String answer(TailBlocks disk, String name, String texts) throws ReflectiveOperationException {
        List<Object> values = new ArrayList<>();
        for (String text : texts.split(", ")) {
            if (!text.isEmpty()) {
                values.add(text.startsWith("'") ? text.charAt(1) : Integer.parseInt(text));
            }
        }
        Class<?>[] types = new Class<?>[values.size()];
        java.util.Arrays.fill(types, int.class);
        Method method = TailBlocks.class.getMethod(name, types);
        try {
            return String.valueOf(method.invoke(disk, values.toArray()));
        } catch (InvocationTargetException e) {
            return e.getCause().getClass().getSimpleName();
        }
    }

    // ---- the tables

    private static void calls(List<String> lines) throws IOException {
        List<Document.Promise> promises = Document.promises();
        check(promises.size() == Document.PROMISES - 1, "the document has " + promises.size() + " calls");
        for (Document.Promise promise : promises) {
            String[] row = row(lines, "`" + promise.call() + "`");
            check(row.length == 5, "no row of five for " + promise.call());
            if (row.length == 5) {
                call(promise, row);
            }
        }
    }

    private static void call(Document.Promise promise, String[] row) {
        for (String range : promise.ranges) {
            check((row[1] + row[2]).contains(range), promise.call() + " does not say " + range);
        }
        List<String> exceptions = new ArrayList<>();
        for (String part : row[3].split("; ")) {
            if (!part.isEmpty()) {
                exceptions.add(part.replaceAll("`(\\w+)`: .+", "$1"));
            }
        }
        check(exceptions.equals(promise.exceptions), promise.call() + " throws " + exceptions);
        check(row[4].equals(promise.undoable ? "yes" : ""), promise.call() + ": undoable '" + row[4] + "'");
    }

    /** The cells of the row that begins so; none if there is no such row, or more than one. */
    private static String[] row(List<String> lines, String first) {
        String[] found = {};
        int rows = 0;
        for (String line : lines) {
            if (line.startsWith("| " + first + " |")) {
                rows++;
                found = line.substring(1, line.length() - 1).split("\\|", -1);
            }
        }
        for (int at = 0; at < found.length; at++) {
            found[at] = found[at].trim();
        }
        return rows == 1 ? found : new String[] {};
    }

    private static void properties(List<String> lines) {
        for (int what = 0; what <= 11; what++) {
            String[] row = row(lines, String.valueOf(what));
            check(row.length == 4, "no row of four for what " + what);
            for (int at = 1; at < row.length; at++) {
                check(row[at].isEmpty() == what >= PROPERTIES[at - 1], "what " + what + ": " + row[at]);
            }
        }
    }

    /** Each order of the table does what the call beside it does. */
    private static void orders(List<String> lines) throws ReflectiveOperationException {
        for (String order : new String[] {"+37", ">0:8", "<0:8", "-0"}) {
            String[] row = row(lines, "`" + order + "`");
            check(row.length == 2, "no row of two for the order " + order);
            Matcher call = Pattern.compile("`(\\w+)\\(([^)]*)\\)`.*").matcher(row.length == 2 ? row[1] : "");
            check(call.matches(), "no call for the order " + order);
            if (call.matches()) {
                TailBlocks called = Cases.with(20, 5);
                answer(called, call.group(1), call.group(2));
                TailBlocks typed = Cases.with(20, 5);
                Cases.type(typed, order);
                check(typed.run() == 1 && typed.digest() == called.digest(), order + " is not " + row[1]);
            }
        }
    }

    private static void tests(List<String> lines) throws IOException {
        check(lines.contains(".ci/run"), "it does not say how the tests are run");
        List<Path> tests = new ArrayList<>();
        try (var found = Files.newDirectoryStream(Path.of("src/test/java"), "*Test.java")) {
            found.forEach(tests::add);
        }
        for (Path test : tests) {
            String name = test.getFileName().toString().replace(".java", "");
            check(lines.stream().anyMatch(line -> line.startsWith("- `" + name + "`: ")), "it does not tell of " + name);
        }
    }
}
