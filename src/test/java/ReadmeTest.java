import java.io.File;
import java.lang.reflect.Method;
import java.lang.reflect.Modifier;
import java.net.URL;
import java.net.URLClassLoader;
import java.nio.file.Files;
import java.nio.file.Path;
import java.util.ArrayList;
import java.util.List;
import java.util.Set;
import java.util.TreeSet;
import java.util.regex.Matcher;
import java.util.regex.Pattern;
import javax.tools.ToolProvider;

/**
 * README.md: its blocks of Java, one behind the other, compile, and each call answers what stands behind it; it
 * shows each call of the face and each constant, and names each test of the project.
 */
public final class ReadmeTest {
    private static final Path FOLDER = Path.of("build/readme");
    private static final Pattern CALL = Pattern.compile("(x\\.(\\w+)\\(.*\\));\\s*(//\\s*(-?\\d+|NO)(:.*)?)?");

    private static final Pattern TEST = Pattern.compile("\\| (\\w+Test) \\|.*");

    private static final Set<String> shown = new TreeSet<>();
    private static final List<String> calls = new ArrayList<>();
    private static final List<Long> due = new ArrayList<>();

    public static void main(String[] args) throws Exception {
        List<String> lines = Files.readAllLines(Path.of("README.md"));
        Files.createDirectories(FOLDER);
        Path source = FOLDER.resolve("ReadmeBlocks.java");
        Files.writeString(source, program(lines));
        int status = ToolProvider.getSystemJavaCompiler().run(null, null, null, "--release", "17", "-cp",
            System.getProperty("java.class.path"), "-d", FOLDER.toString(), source.toString());
        Due.is("the blocks of README.md compile", status, 0);
        if (status == 0) run();
        everyCall();
        everyTest(lines);
        Due.end("ReadmeTest");
    }

    private static String program(List<String> lines) {
        StringBuilder s = new StringBuilder("public class ReadmeBlocks { public static void go(java.util.List<Long> got) {\n");
        boolean isJava = false;
        for (int i = 0; i < lines.size(); i++) {
            String line = lines.get(i);
            if (line.startsWith("```")) isJava = line.equals("```java");
            else if (isJava) s.append(statement(i + 1, line)).append('\n');
        }
        return s.append("} }\n").toString();
    }

    private static String statement(int number, String line) {
        Matcher call = CALL.matcher(line.strip());
        if (!call.matches()) {
            boolean isOther = line.startsWith("MilestoneMaids x = ") || line.startsWith("for (char c : ");
            Due.is("a call with its answer, line " + number + ": " + line, isOther ? 1 : 0, 1);
            return line;
        }
        boolean isAnswered = call.group(4) != null;
        Due.is("an answer behind it, line " + number + ": " + line, isAnswered ? 1 : 0, 1);
        shown.add(call.group(2));
        calls.add("README.md, line " + number + ": " + call.group(1));
        due.add(isAnswered ? Subject.number(call.group(4)) : 0);
        return "got.add((long) " + call.group(1) + ");";
    }

    private static void run() throws Exception {
        URL[] place = {FOLDER.toUri().toURL()};
        try (URLClassLoader loader = new URLClassLoader(place, ReadmeTest.class.getClassLoader())) {
            List<Long> got = new ArrayList<>();
            loader.loadClass("ReadmeBlocks").getMethod("go", List.class).invoke(null, got);
            for (int i = 0; i < calls.size(); i++) Due.is(calls.get(i), got.get(i), due.get(i));
        }
    }

    private static void everyCall() {
        Due.is("calls shown, with answers", shown.size(), 39);
        for (Method m : MilestoneMaids.class.getDeclaredMethods()) {
            if (Modifier.isPublic(m.getModifiers())) Due.is("shows " + m.getName(), shown.contains(m.getName()) ? 1 : 0, 1);
        }
    }

    private static void everyTest(List<String> lines) {
        List<String> told = new ArrayList<>();
        for (String line : lines) {
            Matcher row = TEST.matcher(line);
            if (row.matches()) told.add(row.group(1));
        }
        Set<String> there = new TreeSet<>();
        for (File file : new File("src/test/java").listFiles()) {
            if (file.getName().endsWith("Test.java")) there.add(file.getName().replace(".java", ""));
        }
        Due.is("tests named: " + told + ", there: " + there, new TreeSet<>(told).equals(there) ? told.size() : -1, there.size());
    }
}
