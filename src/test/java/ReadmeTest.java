import java.io.StringWriter;
import java.lang.reflect.Method;
import java.lang.reflect.Modifier;
import java.net.URL;
import java.net.URLClassLoader;
import java.nio.file.Files;
import java.nio.file.Path;
import java.util.List;
import java.util.Set;
import java.util.TreeSet;
import java.util.regex.Matcher;
import java.util.regex.Pattern;
import javax.tools.JavaCompiler;
import javax.tools.ToolProvider;

/** Compiles the blocks of README.md as they stand, with a comparison in place of each answer told behind a call. */
final class ReadmeTest extends Due {
    private static final Pattern TOLD =
            Pattern.compile("(\\w+\\.(\\w+)\\(.*\\));\\s+// (answers|throws) (-?\\w+(?:\\.\\w+)?)(?:[,: ].*)?");
    private static final Pattern CALL = Pattern.compile("\\w+\\.(\\w+)\\(.*\\);.*");

    private final StringBuilder program = new StringBuilder();
    private final Set<String> shown = new TreeSet<>();
    private int told = 0;

    public static void main(String[] args) throws Exception {
        if (args.length < 3) {
            complain("ReadmeTest is called with the document, the program and README.md");
        } else {
            ReadmeTest test = new ReadmeTest();
            test.writeProgram(Files.readAllLines(Path.of(args[2])));
            test.eachCallIsShown();
            test.runProgram();
        }
        end("ReadmeTest");
    }

    private void writeProgram(List<String> lines) {
        program.append("public final class ReadmeCalls {\n")
                .append("interface Call { Object make(); }\n")
                .append("static final StringBuilder wrong = new StringBuilder();\n")
                .append("static void told(int line, Call call, String want) {\n")
                .append("String got;\n")
                .append("try { got = \"answers \" + call.make(); }\n")
                .append("catch (RuntimeException e) { got = \"throws \" + e.getClass().getSimpleName(); }\n")
                .append("if (!got.equals(want)) { wrong.append(\"line \").append(line).append(\" of README.md \")")
                .append(".append(got).append(\", it tells \").append(want).append('\\n'); } }\n")
                .append("public static String run() {\n");
        boolean inBlock = false;
        for (int i = 0; i < lines.size(); i++) {
            String line = lines.get(i);
            if (!inBlock && line.equals("```java")) {
                inBlock = true;
                program.append("{\n");
            } else if (inBlock && line.equals("```")) {
                inBlock = false;
                program.append("}\n");
            } else if (inBlock) {
                writeLine(i + 1, line);
            }
        }
        program.append("return wrong.toString();\n} }\n");
    }

    private void writeLine(int number, String line) {
        Matcher match = TOLD.matcher(line);
        if (match.matches()) {
            shown.add(match.group(2));
            told++;
            String want = match.group(3) + " " + match.group(4);
            boolean empty = isVoid(match.group(2));
            String made = empty ? "{ " + match.group(1) + "; return null; }" : match.group(1);
            program.append("told(" + number + ", () -> " + made + ", \"" + want + "\");\n");
            return;
        }
        Matcher call = CALL.matcher(line);
        if (call.matches()) {
            shown.add(call.group(1));
            due("line " + number + " of README.md tells an answer: " + line, isVoid(call.group(1)), true);
        }
        program.append(line).append('\n');
    }

    private static boolean isVoid(String call) {
        for (Method each : TicketChains.class.getDeclaredMethods()) {
            if (each.getName().equals(call)) {
                return each.getReturnType() == void.class;
            }
        }
        return false;
    }

    private void eachCallIsShown() {
        for (Method each : TicketChains.class.getDeclaredMethods()) {
            if (Modifier.isPublic(each.getModifiers())) {
                due("README.md shows " + each.getName(), shown.contains(each.getName()), true);
            }
        }
        due("answers are told in README.md", told > 100, true);
    }

    private void runProgram() throws Exception {
        Path folder = Files.createTempDirectory("readme");
        Path file = folder.resolve("ReadmeCalls.java");
        try {
            Files.writeString(file, program);
            if (compiled(file, folder)) {
                try (URLClassLoader loader = new URLClassLoader(new URL[] {folder.toUri().toURL()})) {
                    String wrong = (String) loader.loadClass("ReadmeCalls").getMethod("run").invoke(null);
                    dueText("README.md", wrong, "");
                }
            }
        } finally {
            for (Path each : Files.list(folder).toList()) {
                Files.delete(each);
            }
            Files.delete(folder);
        }
    }

    private static boolean compiled(Path file, Path folder) {
        JavaCompiler compiler = ToolProvider.getSystemJavaCompiler();
        if (compiler == null) {
            complain("there is no compiler");
            return false;
        }
        StringWriter said = new StringWriter();
        boolean compiled = compiler.getTask(said, null, null,
                List.of("-d", folder.toString(), "-cp", System.getProperty("java.class.path")), null,
                compiler.getStandardFileManager(null, null, null).getJavaFileObjects(file)).call();
        if (!compiled) {
            complain("the blocks of README.md do not compile: " + said);
        }
        return compiled;
    }
}
