import java.io.IOException;
import java.lang.reflect.Constructor;
import java.lang.reflect.Field;
import java.lang.reflect.Method;
import java.lang.reflect.Modifier;
import java.nio.file.Files;
import java.nio.file.Path;
import java.util.ArrayList;
import java.util.List;
import java.util.TreeSet;

/** The public face, and the rules of LANGUAGE.md that can be read off the classes or the lines. */
public final class FaceTest {
    private static final String INDEX = "IndexOutOfBoundsException";
    private static final String ARGUMENT = "IllegalArgumentException";
    private static final String STATE = "IllegalStateException";

    private static final String[] FACE = {
        "int create(int) " + ARGUMENT,
        "int grow(int,int) " + INDEX + " " + ARGUMENT,
        "int cut(int,int) " + INDEX + " " + ARGUMENT,
        "int delete(int) " + INDEX,
        "int spoil(int) " + INDEX + " " + STATE,
        "int heal(int) " + INDEX + " " + STATE,
        "int pack()",
        "int set(int) " + ARGUMENT,
        "int append(int) " + ARGUMENT + " " + STATE,
        "int clearBuffer()",
        "int firstError()",
        "int run() " + ARGUMENT,
        "int keep(int) " + ARGUMENT,
        "int goBack(int) " + ARGUMENT + " " + STATE,
        "int undo() " + STATE,
        "int fileOf(int,int) " + INDEX + " " + ARGUMENT,
        "int place(int,int) " + INDEX,
        "int blockOf(int,int) " + INDEX + " " + ARGUMENT,
        "int count(int) " + ARGUMENT,
        "int ifPlaced(int) " + ARGUMENT,
        "int ifGrown(int,int) " + INDEX + " " + ARGUMENT,
        "int greatest()",
        "int fewest(int) " + ARGUMENT,
        "int ifPacked()",
        "int weakest()",
        "double usedShare()",
        "long digest()",
    };

    private static final String[] LEFT_OUT = {"import ", "package ", "->", "::", "catch", "finally", "synchronized",
        "assert ", "static {", "Exact(", ".hashCode", "System.currentTimeMillis", "nanoTime", "Random", "Thread",
        "getMessage", "Double.", "Float.", "Object"};

    private static int wrong = 0;

    private static void check(boolean right, String told) {
        if (!right) {
            wrong++;
            System.out.println(told);
        }
    }

    public static void main(String[] args) throws IOException {
        members();
        names();
        lines(Files.readAllLines(Path.of("src/main/java/TailBlocks.java")));
        System.out.println(wrong == 0 ? "the face and the language are kept" : wrong + " rules are broken");
        if (wrong != 0) {
            System.exit(1);
        }
    }

    private static void members() {
        check(Modifier.isPublic(TailBlocks.class.getModifiers()), "the class is not public");
        check(Modifier.isFinal(TailBlocks.class.getModifiers()), "the class is not final");
        TreeSet<String> found = new TreeSet<>();
        for (Method m : TailBlocks.class.getDeclaredMethods()) {
            if (!Modifier.isPrivate(m.getModifiers()) && !m.isSynthetic()) {
                check(m.getModifiers() == Modifier.PUBLIC, m.getName() + " is not plainly public");
                found.add(told(m));
            }
        }
        check(found.equals(new TreeSet<>(List.of(FACE))), "the methods are " + found);
        for (Constructor<?> c : TailBlocks.class.getDeclaredConstructors()) {
            check(c.getParameterCount() == 0 && Modifier.isPublic(c.getModifiers()), "a constructor more: " + c);
        }
        for (Field f : TailBlocks.class.getDeclaredFields()) {
            check(Modifier.isPrivate(f.getModifiers()) || f.getName().equals("NONE"), "a field more: " + f);
            check(!Modifier.isStatic(f.getModifiers()) || Modifier.isFinal(f.getModifiers()), "static state: " + f);
        }
    }

    private static String told(Method m) {
        List<String> parameters = new ArrayList<>();
        for (Class<?> p : m.getParameterTypes()) {
            parameters.add(p.getName());
        }
        StringBuilder text = new StringBuilder(m.getReturnType().getName());
        text.append(' ').append(m.getName()).append('(').append(String.join(",", parameters)).append(')');
        for (Class<?> e : m.getExceptionTypes()) {
            text.append(' ').append(e.getSimpleName());
        }
        return text.toString();
    }

    private static void names() {
        TreeSet<String> names = new TreeSet<>();
        for (String method : FACE) {
            names.add(method.substring(method.indexOf(' ') + 1, method.indexOf('(')));
        }
        List<Class<?>> classes = new ArrayList<>(List.of(TailBlocks.class.getDeclaredClasses()));
        check(classes.size() <= 12, "too many classes");
        for (Class<?> c : classes) {
            check(!Modifier.isPublic(c.getModifiers()) && Modifier.isStatic(c.getModifiers()), c + " is not as it may be");
        }
        classes.add(TailBlocks.class);
        for (Class<?> c : classes) {
            int fields = 0;
            for (Field f : c.getDeclaredFields()) {
                fields += Modifier.isStatic(f.getModifiers()) ? 0 : 1;
            }
            check(fields <= 20, c + " has too many fields");
            for (Method m : c.getDeclaredMethods()) {
                check(m.getParameterCount() <= 7, m + " has too many parameters");
                check(c == TailBlocks.class && Modifier.isPublic(m.getModifiers()) || !names.contains(m.getName()),
                    m + " bears a public one's name");
            }
        }
    }

    private static void lines(List<String> lines) {
        int from = 0;
        for (int n = 0; n < lines.size(); n++) {
            String line = lines.get(n);
            for (String word : LEFT_OUT) {
                boolean comment = line.trim().startsWith("/**") || line.trim().startsWith("//");
                check(comment || !line.contains(word), "line " + (n + 1) + " has " + word);
            }
            check(line.chars().allMatch(c -> c >= 32 && c < 127), "line " + (n + 1) + " is not plain ASCII");
            boolean begins = line.matches(" {4,8}[a-zA-Z].*\\) (throws .*)?\\{");
            from = begins ? n : from;
            boolean ends = line.equals("    }") || line.equals("        }");
            check(!ends || n - from <= 60 || lines.get(from).contains("class "), "a method that ends at line " + (n + 1)
                + " is too long");
            from = ends ? n : from;
        }
    }
}
