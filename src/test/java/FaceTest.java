import java.io.IOException;
import java.lang.reflect.Constructor;
import java.lang.reflect.Field;
import java.lang.reflect.Method;
import java.lang.reflect.Modifier;
import java.nio.file.Files;
import java.nio.file.Path;
import java.util.Arrays;
import java.util.HashSet;
import java.util.List;
import java.util.Set;
import java.util.TreeSet;

/** The face of the class, and those rules of LANGUAGE.md that a machine can look at. */
public final class FaceTest {
    private static final List<String> FACE = List.of(
        "void set(int,int,int) Index Argument", "long pattern(int) Index", "int width(int) Index",
        "void take(int,int,int) Index Argument", "void ratio(int,long,long) Index",
        "long whole(int) Index Arithmetic", "int order(int,int) Index", "void add(int,int,int) Index",
        "void less(int,int,int) Index", "void times(int,int,int) Index", "void over(int,int,int) Index",
        "void fused(int,int,int) Index", "void root(int,int,int) Index Argument", "void under(int,int) Index",
        "void far(int,int,int) Index", "void power(int,int,int) Index Argument",
        "void turn(int,int) Index Argument", "void clear(int) Index", "void gather(int,int,int,boolean) Index",
        "void dot(int,int,int,int) Index Argument", "void settle(int,int) Index",
        "int image(int,int) Index Argument", "int feed(long,int) Argument", "int read(int) Index",
        "int write(int,boolean) Index", "int letter(int)");
    private static final List<String> WORDS_LEFT_OUT = List.of("import ", "catch", "finally", "synchronized",
        "assert", "->", "::", "Exact(", "double", "float", "BigInteger");

    private static int wrong = 0;

    public static void main(String[] args) throws IOException {
        face();
        members();
        source();
        System.out.println(wrong == 0 ? "the face is the document's" : wrong + " faults");
        System.exit(wrong == 0 ? 0 : 1);
    }

    private static void fault(String what) {
        wrong++;
        System.out.println(what);
    }

    private static String told(Method m) {
        StringBuilder text = new StringBuilder(m.getReturnType() + " " + m.getName() + "(");
        for (int i = 0; i < m.getParameterCount(); i++) {
            text.append(i == 0 ? "" : ",").append(m.getParameterTypes()[i]);
        }
        text.append(")");
        for (Class<?> e : m.getExceptionTypes()) {
            text.append(e == IndexOutOfBoundsException.class ? " Index"
                : e == IllegalArgumentException.class ? " Argument"
                : e == ArithmeticException.class ? " Arithmetic" : " " + e.getName());
        }
        return text.toString();
    }

    private static void face() {
        int bits = PositHouse.class.getModifiers();
        if (!Modifier.isPublic(bits) || !Modifier.isFinal(bits)) {
            fault("the class isn't public and final");
        }
        Set<String> found = new TreeSet<>();
        for (Method m : PositHouse.class.getDeclaredMethods()) {
            if (!Modifier.isPrivate(m.getModifiers())) {
                found.add(told(m));
            }
        }
        if (!found.equals(new TreeSet<>(FACE))) {
            fault("the public methods are " + found);
        }
        Constructor<?>[] makers = PositHouse.class.getDeclaredConstructors();
        if (makers.length != 1 || makers[0].getParameterCount() != 0 || !Modifier.isPublic(makers[0].getModifiers())) {
            fault("the constructors are " + Arrays.toString(makers));
        }
    }

    private static void members() {
        Set<String> names = new HashSet<>();
        for (String one : FACE) {
            names.add(one.substring(one.indexOf(' ') + 1, one.indexOf('(')));
        }
        for (Field f : PositHouse.class.getDeclaredFields()) {
            if (!Modifier.isPrivate(f.getModifiers())) {
                fault("the field " + f + " isn't private");
            }
        }
        for (Class<?> inside : PositHouse.class.getDeclaredClasses()) {
            if (!Modifier.isStatic(inside.getModifiers()) || Modifier.isPublic(inside.getModifiers())) {
                fault("the class " + inside + " isn't static, or is public");
            }
            for (Method m : inside.getDeclaredMethods()) {
                if (names.contains(m.getName()) || m.getParameterCount() > 7) {
                    fault("the method " + m + " bears a public name or has too many parameters");
                }
            }
            for (Field f : inside.getDeclaredFields()) {
                if (Modifier.isStatic(f.getModifiers()) && !Modifier.isFinal(f.getModifiers())) {
                    fault("the field " + f + " is static, not final");
                }
            }
        }
        if (PositHouse.class.getDeclaredClasses().length > 11) {
            fault("too many classes");
        }
    }

    private static void source() throws IOException {
        String text = Files.readString(Path.of("src/main/java/PositHouse.java"));
        for (String word : WORDS_LEFT_OUT) {
            if (text.contains(word)) {
                fault("the source has " + word);
            }
        }
    }
}
