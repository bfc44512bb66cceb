import java.io.IOException;
import java.lang.reflect.Constructor;
import java.lang.reflect.Field;
import java.lang.reflect.Method;
import java.lang.reflect.Modifier;
import java.nio.file.Files;
import java.nio.file.Path;
import java.util.Arrays;
import java.util.List;
import java.util.Set;
import java.util.TreeSet;
import java.util.regex.Matcher;
import java.util.regex.Pattern;

/** The face of the class, and those rules of LANGUAGE.md that a machine can look at. */
public final class FaceTest {
    private static final Path DOCUMENT = Path.of("../shared/DOC.md");
    private static final Path SOURCE = Path.of("src/main/java/PositHouse.java");
    private static final int CALLS = 26;
    private static final List<String> WORDS_LEFT_OUT = List.of("import ", "catch", "finally", "synchronized",
        "assert", "->", "::", "Exact(", "double", "float", "BigInteger");

    private static final Set<String> FACE = new TreeSet<>();
    private static final Set<String> NAMES = new TreeSet<>();
    private static int wrong = 0;

    public static void main(String[] args) throws IOException {
        String document = Files.readString(DOCUMENT);
        String source = Files.readString(SOURCE);
        learnFace(document);
        face();
        members();
        parts(document, source);
        source(source);
        System.out.println(wrong == 0 ? "the face is the document's" : wrong + " faults");
        System.exit(wrong == 0 ? 0 : 1);
    }

    private static void fault(String what) {
        wrong++;
        System.out.println(what);
    }

    private static void learnFace(String document) {
        Matcher calls = Pattern.compile("(?m)^    public (\\w+) (\\w+)\\(([^)]*)\\)( throws [^;]+)?;$").matcher(document);
        while (calls.find()) {
            String types = calls.group(3).replaceAll(" \\w+(,|$)", "$1").replace(" ", "");
            String thrown = calls.group(4) == null ? "" : calls.group(4).replace(" throws ", " ").replace(",", "");
            FACE.add(calls.group(1) + " " + calls.group(2) + "(" + types + ")" + thrown);
            NAMES.add(calls.group(2));
        }
        if (FACE.size() != CALLS || NAMES.size() != CALLS) {
            fault("the document's face was not understood: " + FACE);
        }
    }

    private static String told(Method m) {
        StringBuilder text = new StringBuilder(m.getReturnType() + " " + m.getName() + "(");
        for (int i = 0; i < m.getParameterCount(); i++) {
            text.append(i == 0 ? "" : ",").append(m.getParameterTypes()[i]);
        }
        text.append(")");
        for (Class<?> e : m.getExceptionTypes()) {
            text.append(" ").append(e.getSimpleName());
        }
        return text.toString();
    }

    private static void face() {
        int bits = PositHouse.class.getModifiers();
        if (!Modifier.isPublic(bits) || !Modifier.isFinal(bits)) {
            fault("the class isn't public and final");
        }
        Set<String> found = new TreeSet<>();
        for (Method m : PositHouse.class.getDeclaredMethods()) {
            if (!Modifier.isPrivate(m.getModifiers())) {
                found.add(told(m));
            }
        }
        if (!found.equals(FACE)) {
            fault("the public methods are " + found);
        }
        Constructor<?>[] makers = PositHouse.class.getDeclaredConstructors();
        if (makers.length != 1 || makers[0].getParameterCount() != 0 || !Modifier.isPublic(makers[0].getModifiers())) {
            fault("the constructors are " + Arrays.toString(makers));
        }
    }

    private static void members() {
        for (Field f : PositHouse.class.getDeclaredFields()) {
            if (!Modifier.isPrivate(f.getModifiers())) {
                fault("the field " + f + " isn't private");
            }
        }
        for (Class<?> inside : PositHouse.class.getDeclaredClasses()) {
            if (!Modifier.isStatic(inside.getModifiers()) || Modifier.isPublic(inside.getModifiers())) {
                fault("the class " + inside + " isn't static, or is public");
            }
            for (Method m : inside.getDeclaredMethods()) {
                if (NAMES.contains(m.getName()) || m.getParameterCount() > 7) {
                    fault("the method " + m + " bears a public name or has too many parameters");
                }
            }
            for (Field f : inside.getDeclaredFields()) {
                if (Modifier.isStatic(f.getModifiers()) && !Modifier.isFinal(f.getModifiers())) {
                    fault("the field " + f + " is static, not final");
                }
            }
        }
        if (PositHouse.class.getDeclaredClasses().length > 11) {
            fault("too many classes");
        }
    }

    /** The calls stand behind the document's headings, in its order. */
    private static void parts(String document, String source) {
        Matcher told = Pattern.compile("(?m)^Ahead of the calls (.*) the interface says: ---- (\\w+)\\.$").matcher(document);
        int count = 0;
        while (told.find()) {
            count++;
            int from = source.indexOf("    // ---- " + told.group(2) + "\n");
            int to = source.indexOf("    // ---- ", from + 1);
            Matcher calls = Pattern.compile("(?m)^    public \\w+ (\\w+)\\(").matcher(
                from < 0 || to < 0 ? "" : source.substring(from, to));
            StringBuilder names = new StringBuilder();
            while (calls.find()) {
                names.append(names.length() == 0 ? "`" : ", `").append(calls.group(1)).append("`");
            }
            if (!names.toString().equals(told.group(1))) {
                fault("behind ---- " + told.group(2) + " stand " + names);
            }
        }
        if (count != 4) {
            fault("the document has " + count + " headings of calls");
        }
    }

    private static void source(String text) {
        for (String word : WORDS_LEFT_OUT) {
            if (text.contains(word)) {
                fault("the source has " + word);
            }
        }
    }
}
