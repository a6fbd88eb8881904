import java.io.File;
import java.io.IOException;
import java.lang.invoke.MethodHandles;
import java.lang.reflect.Method;
import java.lang.reflect.Modifier;
import java.nio.file.Files;
import java.nio.file.Path;
import java.util.ArrayList;
import java.util.Comparator;
import java.util.List;
import java.util.TreeSet;
import java.util.regex.Matcher;
import java.util.regex.Pattern;
import java.util.stream.Collectors;
import java.util.stream.Stream;
import javax.tools.ToolProvider;

/** What README.md shows is carried out: its Java lines answer what stands behind their arrows, its commands work. */
public final class ReadmeTest {
    private static final String SHOWN = "ReadmeShown";
    /** int name = call; // -> answer .. or call; // -> throws Refusal .. */
    private static final Pattern ANSWERED =
        Pattern.compile("\\s*(?:int (\\w+) = )?(.+);\\s*// -> (throws )?(-?\\w+).*");

    public static void main(String[] args) throws Exception {
        List<String> readme = Files.readAllLines(Path.of("README.md"));
        Path work = Files.createTempDirectory("readme");
        try {
            List<String> shown = blocks(readme, "java").stream().flatMap(List::stream).collect(Collectors.toList());
            everyCallAnswers(shown);
            answersOfJava(shown, work);
            commands(blocks(readme, "sh"), work);
            testsAreNamed(readme);
        } finally {
            delete(work);
        }
        Check.end();
    }

    private static List<List<String>> blocks(List<String> lines, String language) {
        List<List<String>> found = new ArrayList<>();
        List<String> open = null;
        for (String line : lines) {
            if (open == null && line.equals("```" + language)) {
                open = new ArrayList<>();
            } else if (open != null && line.equals("```")) {
                found.add(open);
                open = null;
            } else if (open != null) {
                open.add(line);
            }
        }
        return found;
    }

    /** Each call of the face that answers something is shown with an answer, the others are shown. */
    private static void everyCallAnswers(List<String> shown) {
        for (Method call : HydrantRows.class.getDeclaredMethods()) {
            String begins = "rows." + call.getName() + "(";
            boolean isVoid = call.getReturnType() == void.class;
            Check.promise("README shows " + call.getName());
            if (Modifier.isPublic(call.getModifiers())) {
                Check.answers(true, () -> shown.stream().anyMatch(line -> line.contains(begins)
                    && !line.contains("throws") && (isVoid || ANSWERED.matcher(line).matches())));
            }
        }
    }

    /** The blocks are one program, which is compiled and run with a comparison behind each arrow. */
    private static void answersOfJava(List<String> shown, Path work) throws Exception {
        StringBuilder source = new StringBuilder("final class " + SHOWN + " {\n    static void show() {\n");
        for (String line : shown) {
            source.append(compared(line)).append('\n');
        }
        Path file = work.resolve(SHOWN + ".java");
        Files.writeString(file, source.append("    }\n}\n").toString());
        int refused = ToolProvider.getSystemJavaCompiler().run(null, null, null, "-proc:none",
            "-cp", System.getProperty("java.class.path"), "-d", work.toString(), file.toString());
        Check.promise("README's Java compiles");
        Check.answers(0, () -> refused);
        if (refused == 0) {
            byte[] compiled = Files.readAllBytes(work.resolve(SHOWN + ".class"));
            // Defined by this class's own loader, so that it sees Check.
            MethodHandles.lookup().defineClass(compiled).getDeclaredMethod("show").invoke(null);
        }
    }

    private static String compared(String line) {
        Matcher answered = ANSWERED.matcher(line);
        if (!answered.matches()) {
            return line;
        }
        String call = answered.group(2);
        String named = "Check.promise(\"README: " + call + "\"); ";
        if (answered.group(3) != null) {
            return named + "Check.refusesDeed(" + answered.group(4) + ".class, () -> " + call + ");";
        }
        String variable = answered.group(1);
        String told = variable == null ? "" : "int " + variable + " = " + call + "; ";
        String asked = variable == null ? call : variable;
        return named + told + "Check.answers(\"" + answered.group(4) + "\", () -> " + asked + ");";
    }

    private static void commands(List<List<String>> blocks, Path work) throws Exception {
        Check.promise("README's commands: all tests, one alone");
        Check.answers(2, () -> blocks.size());
        for (List<String> block : blocks) {
            Check.promise("README's command " + block.get(0));
            if (block.equals(List.of(".ci/run"))) {
                // It runs this test, so it can't be run from here.
                Check.answers(true, () -> Files.isExecutable(Path.of(".ci/run")));
            } else {
                Check.compare("0 all answers are as due", outcome(block, work));
            }
        }
    }

    /** The exit code and what was printed; what goes to the error stream, such as a notice of the machine, is shown. */
    private static String outcome(List<String> block, Path work) throws IOException, InterruptedException {
        ProcessBuilder builder = new ProcessBuilder("sh", "-c", String.join("\n", block));
        builder.environment().put("TMPDIR", work.toString());
        builder.redirectError(ProcessBuilder.Redirect.INHERIT);
        Process process = builder.start();
        String printed = new String(process.getInputStream().readAllBytes()).strip();
        return process.waitFor() + " " + printed;
    }

    private static void testsAreNamed(List<String> readme) {
        TreeSet<String> named = new TreeSet<>();
        Matcher name = Pattern.compile("`src/test/java/(\\w+\\.java)`").matcher(String.join("\n", readme));
        while (name.find()) {
            named.add(name.group(1));
        }
        Check.promise("README names each file of the tests");
        Check.answers(new TreeSet<>(List.of(new File("src/test/java").list())), () -> named);
    }

    private static void delete(Path directory) throws IOException {
        try (Stream<Path> all = Files.walk(directory)) {
            all.sorted(Comparator.reverseOrder()).map(Path::toFile).forEach(File::delete);
        }
    }
}
