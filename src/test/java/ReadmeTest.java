import java.io.File;
import java.io.IOException;
import java.lang.reflect.Method;
import java.net.URL;
import java.net.URLClassLoader;
import java.nio.file.Files;
import java.nio.file.Path;
import java.util.ArrayList;
import java.util.List;
import java.util.Set;
import java.util.TreeSet;
import java.util.regex.Matcher;
import java.util.regex.Pattern;
import java.util.spi.ToolProvider;

/** The calls in README.md compile, each answers what stands behind it, and none of the face is left out. */
final class ReadmeTest {
    private static final Pattern CALL = Pattern.compile(
            "\\s+(?:int (\\w+) = )?(.*?);\\s+// (throws \\w+|[^ :]+)(?::.*)?");
    private static final Pattern PRINTED = Pattern.compile("System[.]out[.]println\\((.*)\\)");
    private static final Pattern NAME = Pattern.compile("[.](\\w+)\\(");

    private final Expect expect;
    private final List<String> program = new ArrayList<>();
    private final List<String> refusals = new ArrayList<>();

    private ReadmeTest(Expect expect) {
        this.expect = expect;
    }

    static void run(Expect expect) {
        ReadmeTest test = new ReadmeTest(expect);
        test.readBlocks();
        test.expect.equal("README.md compiles as it stands", 0, () -> test.compile("Example", test.program));
        test.expect.equal("README.md's calls", test.face(), () -> test.namedCalls());
        test.answers();
    }

    /** The first block of Java is a whole program, the later ones go on at its end. */
    private void readBlocks() {
        List<String> block = null;
        for (String line : readme()) {
            if (line.equals("```java")) {
                block = program.isEmpty() ? program : refusals;
            } else if (line.startsWith("```")) {
                block = null;
            } else if (block != null) {
                block.add(line);
            }
        }
    }

    private static List<String> readme() {
        try {
            return Files.readAllLines(Path.of("README.md"));
        } catch (IOException e) {
            throw new IllegalStateException(e);
        }
    }

    private Set<String> face() {
        Set<String> names = new TreeSet<>();
        for (Method method : PackageForge.class.getDeclaredMethods()) {
            if (java.lang.reflect.Modifier.isPublic(method.getModifiers())) {
                names.add(method.getName());
            }
        }
        return names;
    }

    private Set<String> namedCalls() {
        Set<String> names = new TreeSet<>();
        for (String line : program) {
            Matcher name = NAME.matcher(line.replace("System.out.println", ""));
            if (name.find()) {
                names.add(name.group(1));
            }
        }
        return names;
    }

    private void answers() {
        List<String> due = new ArrayList<>();
        List<String> source = new ArrayList<>(List.of("public final class Answers {",
                "public static void fill(java.util.List<String> got) {"));
        for (String line : callLines()) {
            Matcher call = CALL.matcher(line);
            if (call.matches()) {
                due.add(call.group(2) + " -> " + call.group(3));
                source.add(recording(call.group(1), call.group(2)));
            } else {
                source.add(line);
            }
        }
        source.addAll(List.of("}", "}"));
        expect.equal("README.md's answers compile", 0, () -> compile("Answers", source));
        expect.equal("README.md's answers", due, () -> recorded());
    }

    /** What stands in the example's main, then what would throw at its end. */
    private List<String> callLines() {
        List<String> lines = new ArrayList<>();
        for (String line : program) {
            if (line.startsWith("        ")) {
                lines.add(line);
            }
        }
        lines.addAll(refusals);
        return lines;
    }

    private static String recording(String variable, String expression) {
        Matcher printed = PRINTED.matcher(expression);
        String call = printed.matches() ? printed.group(1) : expression;
        String add = "got.add(\"" + expression + " -> \" + ";
        if (variable != null) {
            return "int " + variable + " = " + call + "; " + add + variable + ");";
        }
        return "try { " + add + "(" + call + ")); } catch (RuntimeException e) { " + add
                + "\"throws \" + e.getClass().getSimpleName()); }";
    }

    private static File classes() {
        return new File(ReadmeTest.class.getProtectionDomain().getCodeSource().getLocation().getPath());
    }

    /** Writes beside the tests' own classes, which the script throws away. */
    private int compile(String name, List<String> source) {
        try {
            Path folder = Files.createDirectories(classes().toPath().resolve("readme"));
            Path file = Files.write(folder.resolve(name + ".java"), source);
            return ToolProvider.findFirst("javac").orElseThrow().run(System.out, System.err, "-Xlint:all", "-Werror",
                    "-encoding", "UTF-8", "-d", folder.toString(), "-cp", classes().getPath(), file.toString());
        } catch (IOException e) {
            throw new IllegalStateException(e);
        }
    }

    private List<String> recorded() {
        List<String> got = new ArrayList<>();
        try {
            URL folder = classes().toPath().resolve("readme").toUri().toURL();
            try (URLClassLoader loader = new URLClassLoader(new URL[] {folder})) {
                loader.loadClass("Answers").getMethod("fill", List.class).invoke(null, got);
            }
        } catch (IOException | ReflectiveOperationException e) {
            throw new IllegalStateException(e);
        }
        return got;
    }
}
