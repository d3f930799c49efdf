import java.io.IOException;
import java.lang.reflect.Constructor;
import java.lang.reflect.Field;
import java.lang.reflect.Method;
import java.lang.reflect.Modifier;
import java.nio.file.Files;
import java.nio.file.Path;
import java.util.Arrays;
import java.util.List;
import java.util.Set;
import java.util.TreeSet;
import java.util.regex.Matcher;
import java.util.regex.Pattern;

/** Those rules of ../shared/LANGUAGE.md that can be seen by reflection or in the text of the program. */
public final class LanguageTests {
    private static final Set<String> FACE = new TreeSet<>(List.of(
        "int UNKNOWN", "int BAD_VALUE", "int FULL", "int NOT_POSSIBLE", "int NONE", "new()",
        "int write(int, int)", "int drop(int)", "int writeAll()", "int clear()", "int begin()", "int step()",
        "int finish()", "int giveUp()", "int crash(boolean)", "int open()", "int close(int)", "int type(char)",
        "int clearText()", "int undo()", "int keep()", "int restore()", "int read(int)", "int readDesk(int)",
        "int readBy(int, int)", "int cell(int, int)", "int table(int, int)", "int owed(int, int)", "int reader(int)",
        "double unevenness()", "int unevennessBits()", "int count(int)"));
    private static final String[] RULED_OUT = {
        "->", "::", "import ", "package ", "catch", "throw", "finally", "synchronized", "assert", "Float.", "Double.",
        "Exact", "System.", "Object", "native", "volatile", "Thread", "static {", "@", "instanceof", "var "
    };

    private static int wrong = 0;

    private LanguageTests() {
    }

    public static void main(String[] args) throws IOException {
        face();
        for (Class<?> inside : SwappedTables.class.getDeclaredClasses()) {
            inside(inside);
        }
        text(Files.readString(Path.of("src/main/java/SwappedTables.java")));
        System.out.println("LanguageTests: " + wrong + " wrong");
        if (wrong != 0) {
            System.exit(1);
        }
    }

    private static void must(boolean holds, String what) {
        if (!holds) {
            wrong++;
            System.out.println(what);
        }
    }

    private static String parameters(Class<?>[] types) {
        String[] names = Arrays.stream(types).map(Class::getName).toArray(String[]::new);
        return "(" + String.join(", ", names) + ")";
    }

    private static void face() {
        Class<?> all = SwappedTables.class;
        must(Modifier.isPublic(all.getModifiers()) && Modifier.isFinal(all.getModifiers()), "the class is public final");
        Set<String> seen = new TreeSet<>();
        for (Field f : all.getDeclaredFields()) {
            if (!Modifier.isPrivate(f.getModifiers())) {
                seen.add(f.getType() + " " + f.getName());
                must(f.getModifiers() == (Modifier.PUBLIC | Modifier.STATIC | Modifier.FINAL), "constant " + f);
            }
        }
        for (Constructor<?> c : all.getDeclaredConstructors()) {
            seen.add("new" + parameters(c.getParameterTypes()));
        }
        for (Method m : all.getDeclaredMethods()) {
            if (!Modifier.isPrivate(m.getModifiers()) && !m.isSynthetic()) {
                seen.add(m.getReturnType() + " " + m.getName() + parameters(m.getParameterTypes()));
                must(Modifier.isPublic(m.getModifiers()), "public " + m);
            }
        }
        must(seen.equals(FACE), "the face is " + seen);
        privateNames(all);
        staticFields(all);
    }

    /** Rule 1: no private method bears the name of a public one. */
    private static void privateNames(Class<?> where) {
        for (Method m : where.getDeclaredMethods()) {
            boolean ofFace = FACE.stream().anyMatch(f -> f.contains(" " + m.getName() + "("));
            must(Modifier.isPublic(m.getModifiers()) || !ofFace, "named as the face: " + m);
        }
    }

    private static void inside(Class<?> where) {
        must(Modifier.isStatic(where.getModifiers()) && !Modifier.isPublic(where.getModifiers()), "inside " + where);
        must(where.getDeclaredClasses().length == 0, "one level of classes: " + where);
        privateNames(where);
        staticFields(where);
    }

    /** Rules 5 and 11. */
    private static void staticFields(Class<?> where) {
        int own = 0;
        for (Field f : where.getDeclaredFields()) {
            boolean constant = Modifier.isStatic(f.getModifiers());
            must(!constant || Modifier.isFinal(f.getModifiers()) && f.getType().isPrimitive(), "static field " + f);
            own += constant ? 0 : 1;
        }
        must(own <= 20, "fields of " + where);
        must(SwappedTables.class.getDeclaredClasses().length <= 11, "at most twelve classes");
    }

    private static void text(String whole) {
        String code = whole.replaceAll("(?s)/\\*.*?\\*/", "").replaceAll("//[^\n]*", "");
        for (String word : RULED_OUT) {
            must(!code.contains(word), "ruled out: " + word);
        }
        must(code.chars().allMatch(c -> c < 128), "signs of the program");
        must(!code.contains("\""), "no texts");
        Matcher made = Pattern.compile("\\bnew (\\w+)").matcher(code);
        while (made.find()) {
            must(!made.group(1).endsWith("Exception"), "throws " + made.group(1));
        }
        lengthOfMethods(whole.split("\n"));
    }

    private static void lengthOfMethods(String[] lines) {
        int start = 0;
        for (int i = 0; i < lines.length; i++) {
            if (lines[i].matches("( {4}| {8})\\S.*\\) \\{")) {
                start = i;
            }
            if (lines[i].matches("( {4}| {8})\\}")) {
                must(i - start < 60, "a long method ends at line " + (i + 1));
            }
        }
    }
}
