import java.io.IOException;
import java.lang.reflect.Method;
import java.lang.reflect.Modifier;
import java.nio.charset.StandardCharsets;
import java.nio.file.Files;
import java.nio.file.Path;
import java.util.ArrayList;
import java.util.Comparator;
import java.util.List;
import java.util.Set;
import java.util.TreeSet;
import java.util.regex.Matcher;
import java.util.regex.Pattern;
import java.util.stream.Stream;

/** README.md: its program prints what it says, its commands work, and it names each call and each test. */
public final class ReadmeTest {
    private static final Path TESTS = Path.of("src/test/java");
    private static final String RUN_ALL = ".ci/run";

    private static int wrong = 0;

    public static void main(String[] args) throws IOException, InterruptedException {
        String text = Files.readString(Path.of("README.md"));
        namesEachCall(text);
        namesEachTest(text);
        Path room = Files.createTempDirectory("readme");
        try {
            copySources(room);
            followIt(text, room);
        } finally {
            remove(room);
        }
        System.out.println(wrong == 0 ? "README.md holds" : wrong + " faults");
        System.exit(wrong == 0 ? 0 : 1);
    }

    private static void fault(String what) {
        wrong++;
        System.out.println(what);
    }

    private static void namesEachCall(String text) {
        String table = String.join("\n", text.lines().filter(line -> line.startsWith("| `")).toList());
        for (Method m : PositHouse.class.getDeclaredMethods()) {
            if (Modifier.isPublic(m.getModifiers()) && !table.matches("(?s).*`" + m.getName() + "[`(].*")) {
                fault("README.md doesn't name the call " + m.getName());
            }
        }
    }

    private static void namesEachTest(String text) throws IOException {
        Set<String> named = new TreeSet<>();
        Matcher names = Pattern.compile("`(\\w+Test)`").matcher(text);
        while (names.find()) {
            named.add(names.group(1));
        }
        Set<String> there = new TreeSet<>();
        try (Stream<Path> files = Files.list(TESTS)) {
            files.map(file -> file.getFileName().toString()).filter(name -> name.endsWith("Test.java"))
                .forEach(name -> there.add(name.substring(0, name.length() - ".java".length())));
        }
        if (!named.equals(there)) {
            fault("README.md names the tests " + named + ", there are " + there);
        }
    }

    private static List<String> blocks(String text, String kind) {
        List<String> found = new ArrayList<>();
        Matcher fenced = Pattern.compile("(?ms)^```" + kind + "\\n(.*?)^```$").matcher(text);
        while (fenced.find()) {
            found.add(fenced.group(1));
        }
        return found;
    }

    /** The commands come in the order of the file: those of the program first. */
    private static void followIt(String text, Path room) throws IOException, InterruptedException {
        List<String> programs = blocks(text, "java");
        List<String> printed = blocks(text, "text");
        List<String> commands = blocks(text, "sh");
        if (programs.size() != 1 || printed.size() != 1 || commands.size() != 3) {
            fault("README.md has other blocks than this test knows");
            return;
        }
        Matcher name = Pattern.compile("public final class (\\w+)").matcher(programs.get(0));
        if (!name.find() || !text.contains("`" + name.group(1) + ".java`")) {
            fault("README.md doesn't say which file its program is");
            return;
        }
        Files.writeString(room.resolve(name.group(1) + ".java"), programs.get(0));
        String output = told(commands.get(0), room);
        if (!output.equals(printed.get(0))) {
            fault("the program printed " + output);
        }
        if (!commands.get(1).trim().equals(RUN_ALL) || !Files.isExecutable(Path.of(RUN_ALL))) {
            fault("all tests run otherwise than by " + RUN_ALL);
        }
        told(commands.get(2), room);
    }

    private static String told(String commands, Path room) throws IOException, InterruptedException {
        Process process = new ProcessBuilder("sh", "-e", "-c", commands).directory(room.toFile())
            .redirectErrorStream(true).start();
        process.getOutputStream().close();
        String output = new String(process.getInputStream().readAllBytes(), StandardCharsets.UTF_8);
        if (process.waitFor() != 0) {
            fault("this failed: " + commands + output);
        }
        return output;
    }

    private static void copySources(Path room) throws IOException {
        try (Stream<Path> files = Files.walk(Path.of("src"))) {
            for (Path file : files.toList()) {
                Files.copy(file, room.resolve(file));
            }
        }
    }

    private static void remove(Path room) throws IOException {
        try (Stream<Path> files = Files.walk(room)) {
            for (Path file : files.sorted(Comparator.reverseOrder()).toList()) {
                Files.delete(file);
            }
        }
    }
}
