import java.io.IOException;
import java.lang.reflect.Constructor;
import java.lang.reflect.Field;
import java.lang.reflect.Method;
import java.lang.reflect.Modifier;
import java.nio.file.Files;
import java.nio.file.Path;
import java.util.ArrayList;
import java.util.List;
import java.util.TreeSet;

/** The public face, and the rules of LANGUAGE.md that can be read off the classes or the lines. */
public final class FaceTest {
    private static final String INDEX = "IndexOutOfBoundsException";
    private static final String ARGUMENT = "IllegalArgumentException";
    private static final String STATE = "IllegalStateException";

    private static final String[] FACE = {
        "int create(int) " + ARGUMENT,
        "int grow(int,int) " + INDEX + " " + ARGUMENT,
        "int cut(int,int) " + INDEX + " " + ARGUMENT,
        "int delete(int) " + INDEX,
        "int spoil(int) " + INDEX + " " + STATE,
        "int heal(int) " + INDEX + " " + STATE,
        "int pack()",
        "int set(int) " + ARGUMENT,
        "int append(int) " + ARGUMENT + " " + STATE,
        "int clearBuffer()",
        "int firstError()",
        "int run() " + ARGUMENT,
        "int keep(int) " + ARGUMENT,
        "int goBack(int) " + ARGUMENT + " " + STATE,
        "int undo() " + STATE,
        "int fileOf(int,int) " + INDEX + " " + ARGUMENT,
        "int place(int,int) " + INDEX,
        "int blockOf(int,int) " + INDEX + " " + ARGUMENT,
        "int count(int) " + ARGUMENT,
        "int ifPlaced(int) " + ARGUMENT,
        "int ifGrown(int,int) " + INDEX + " " + ARGUMENT,
        "int greatest()",
        "int fewest(int) " + ARGUMENT,
        "int ifPacked()",
        "int weakest()",
        "double usedShare()",
        "long digest()",
    };

    private static final String[] LEFT_OUT = {"import ", "package ", "->", "::", "catch", "finally", "synchronized",
        "assert ", "static {", "Exact(", ".hashCode", "System.currentTimeMillis", "nanoTime", "Random", "Thread",
        "getMessage", "Double.", "Float.", "Object"};

    private static int wrong = 0;

    private static void check(boolean right, String told) {
        if (!right) {
            wrong++;
            System.out.println(told);
        }
    }

    public static void main(String[] args) throws IOException, ReflectiveOperationException {
        List<String> source = Files.readAllLines(Path.of("src/main/java/TailBlocks.java"));
        members();
        constant();
        asWritten(source, Document.face());
        headings(source, Document.lines());
        names();
        lines(source);
        System.out.println(wrong == 0 ? "the face and the language are kept" : wrong + " rules are broken");
        if (wrong != 0) {
            System.exit(1);
        }
    }

    private static void members() {
        check(Modifier.isPublic(TailBlocks.class.getModifiers()), "the class is not public");
        check(Modifier.isFinal(TailBlocks.class.getModifiers()), "the class is not final");
        TreeSet<String> found = new TreeSet<>();
        for (Method m : TailBlocks.class.getDeclaredMethods()) {
            if (!Modifier.isPrivate(m.getModifiers()) && !m.isSynthetic()) {
                check(m.getModifiers() == Modifier.PUBLIC, m.getName() + " is not plainly public");
                found.add(told(m));
            }
        }
        check(found.equals(new TreeSet<>(List.of(FACE))), "the methods are " + found);
        for (Constructor<?> c : TailBlocks.class.getDeclaredConstructors()) {
            check(c.getParameterCount() == 0 && Modifier.isPublic(c.getModifiers()), "a constructor more: " + c);
        }
        for (Field f : TailBlocks.class.getDeclaredFields()) {
            check(Modifier.isPrivate(f.getModifiers()) || f.getName().equals("NONE"), "a field more: " + f);
            check(!Modifier.isStatic(f.getModifiers()) || Modifier.isFinal(f.getModifiers()), "static state: " + f);
        }
    }

    private static void constant() throws ReflectiveOperationException {
        Field none = TailBlocks.class.getField("NONE");
        int right = Modifier.PUBLIC | Modifier.STATIC | Modifier.FINAL;
        check(none.getModifiers() == right && none.getType() == int.class, "NONE is not a public constant");
        check(none.getInt(null) == -1, "NONE is not -1");
    }

    /** Each line of the document's face stands in the source, in the same order, with the same parameters' names. */
    private static void asWritten(List<String> source, List<String> face) {
        check(face.size() == FACE.length + 4, "the document's face has " + face.size() + " lines");
        int at = 0;
        for (String line : face) {
            String due = line.endsWith(");") || line.contains(" throws ") ? line.replace(";", " {") : line;
            int from = at;
            while (at < source.size() && !source.get(at).trim().equals(due)) {
                at++;
            }
            check(at < source.size(), "not in the source, or not in its place: " + due);
            at = at < source.size() ? at + 1 : from;
        }
    }

    /** Ahead of each call the source says what the document says that the interface says. */
    private static void headings(List<String> source, List<String> document) {
        int calls = 0;
        for (String line : document) {
            String[] parts = line.split(" the interface says: ");
            if (line.startsWith("Ahead of the calls ") && parts.length == 2) {
                String heading = "// " + parts[1].substring(0, parts[1].length() - 1);
                for (String name : parts[0].substring("Ahead of the calls ".length()).replace("`", "").split(", ")) {
                    calls++;
                    check(heading.equals(headingOf(source, name)), "ahead of " + name + " is not " + heading);
                }
            }
        }
        check(calls == FACE.length, "the document tells what is ahead of " + calls + " calls");
    }

    private static String headingOf(List<String> source, String call) {
        String heading = "";
        for (String line : source) {
            if (line.startsWith("    // ----")) {
                heading = line.trim();
            }
            if (line.matches("    public \\w+ " + call + "\\(.*")) {
                return heading;
            }
        }
        return "";
    }

    private static String told(Method m) {
        List<String> parameters = new ArrayList<>();
        for (Class<?> p : m.getParameterTypes()) {
            parameters.add(p.getName());
        }
        StringBuilder text = new StringBuilder(m.getReturnType().getName());
        text.append(' ').append(m.getName()).append('(').append(String.join(",", parameters)).append(')');
        for (Class<?> e : m.getExceptionTypes()) {
            text.append(' ').append(e.getSimpleName());
        }
        return text.toString();
    }

    private static void names() {
        TreeSet<String> names = new TreeSet<>();
        for (String method : FACE) {
            names.add(method.substring(method.indexOf(' ') + 1, method.indexOf('(')));
        }
        List<Class<?>> classes = new ArrayList<>(List.of(TailBlocks.class.getDeclaredClasses()));
        check(classes.size() <= 12, "too many classes");
        for (Class<?> c : classes) {
            check(!Modifier.isPublic(c.getModifiers()) && Modifier.isStatic(c.getModifiers()), c + " is not as it may be");
        }
        classes.add(TailBlocks.class);
        for (Class<?> c : classes) {
            int fields = 0;
            for (Field f : c.getDeclaredFields()) {
                fields += Modifier.isStatic(f.getModifiers()) ? 0 : 1;
            }
            check(fields <= 20, c + " has too many fields");
            for (Method m : c.getDeclaredMethods()) {
                check(m.getParameterCount() <= 7, m + " has too many parameters");
                check(c == TailBlocks.class && Modifier.isPublic(m.getModifiers()) || !names.contains(m.getName()),
                    m + " bears a public one's name");
            }
        }
    }

    private static void lines(List<String> lines) {
        int from = 0;
        for (int n = 0; n < lines.size(); n++) {
            String line = lines.get(n);
            for (String word : LEFT_OUT) {
                boolean comment = line.trim().startsWith("/**") || line.trim().startsWith("//");
                check(comment || !line.contains(word), "line " + (n + 1) + " has " + word);
            }
            check(line.chars().allMatch(c -> c >= 32 && c < 127), "line " + (n + 1) + " is not plain ASCII");
            boolean begins = line.matches(" {4,8}[a-zA-Z].*\\) (throws .*)?\\{");
            from = begins ? n : from;
            boolean ends = line.equals("    }") || line.equals("        }");
            check(!ends || n - from <= 60 || lines.get(from).contains("class "), "a method that ends at line " + (n + 1)
                + " is too long");
            from = ends ? n : from;
        }
    }
}
