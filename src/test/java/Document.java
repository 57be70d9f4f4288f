import java.io.IOException;
import java.nio.file.Files;
import java.nio.file.Path;
import java.util.ArrayList;
import java.util.List;
import java.util.regex.Matcher;
import java.util.regex.Pattern;

/** What ../shared/DOC.md says, read for the tests: the face as it is written there, and each promise. */
final class Document {
    static final int PROMISES = 28;

    private static final Path PLACE = Path.of("../shared/DOC.md");
    private static final Pattern CALL = Pattern.compile("`(int|double|long) (\\w+)\\(([^)]*)\\)( throws ([^`]*))?`: .*");
    private static final Pattern RANGE = Pattern.compile("\\d+ (to|or) \\d+");

    /** A promise that has a method. */
    static final class Promise {
        String name = "";
        final List<String> parameters = new ArrayList<>();
        final List<String> exceptions = new ArrayList<>();
        /** The numbers that it allows for its parameters, such as "0 to 23". */
        final List<String> ranges = new ArrayList<>();
        boolean undoable = false;

        String call() {
            return name + "(" + String.join(", ", parameters) + ")";
        }
    }

    private Document() {
    }

    static List<String> lines() throws IOException {
        return Files.readAllLines(PLACE);
    }

    /** The lines of the class in "The public face", without the blanks at their ends. */
    static List<String> face() throws IOException {
        List<String> face = new ArrayList<>();
        boolean inside = false;
        for (String line : lines()) {
            if (line.startsWith("```")) {
                inside = line.equals("```java");
            } else if (inside) {
                face.add(line.trim());
            }
        }
        return face;
    }

    /** Promises 2 to 28. */
    static List<Promise> promises() throws IOException {
        List<Promise> promises = new ArrayList<>();
        boolean inside = false;
        for (String line : lines()) {
            Matcher call = CALL.matcher(line);
            if (line.startsWith("## ")) {
                inside = false;
            }
            if (call.matches()) {
                inside = true;
                promises.add(begun(call));
            }
            if (inside) {
                addLine(promises.get(promises.size() - 1), line);
            }
        }
        return promises;
    }

    private static Promise begun(Matcher call) {
        Promise promise = new Promise();
        promise.name = call.group(2);
        for (String parameter : call.group(3).split(", ")) {
            if (!parameter.isEmpty()) {
                promise.parameters.add(parameter.substring(parameter.indexOf(' ') + 1));
            }
        }
        if (call.group(5) != null) {
            promise.exceptions.addAll(List.of(call.group(5).split(", ")));
        }
        return promise;
    }

    private static void addLine(Promise promise, String line) {
        promise.undoable |= line.contains("Undoable");
        // The line of "what" tells the properties; its range stands where the exception is told.
        boolean parameter = line.startsWith("- `") && !line.startsWith("- `what`");
        if (parameter || line.startsWith("Throws `IllegalArgumentException`")) {
            Matcher range = RANGE.matcher(line);
            while (range.find()) {
                promise.ranges.add(range.group());
            }
        }
    }
}
