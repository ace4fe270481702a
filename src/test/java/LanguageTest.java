import java.lang.reflect.Field;
import java.lang.reflect.Modifier;
import java.nio.file.Files;
import java.nio.file.Path;
import java.util.List;
import java.util.Set;
import java.util.TreeSet;
import java.util.regex.Pattern;

/** The source keeps to LANGUAGE.md; the methods bear the numbers of its rules. */
final class LanguageTest extends Due {
    private static final Set<String> EXCEPTIONS = Set.of("IllegalStateException", "IllegalArgumentException",
            "IndexOutOfBoundsException");
    private static final Set<String> LIBRARY = Set.of("Integer.bitCount", "Math.max", "Math.min", "System.arraycopy");
    private static final Set<String> LIBRARY_CLASSES = Set.of("Integer", "Math", "System");
    private static final Pattern WORD = Pattern.compile("\\b([A-Za-z_]\\w*)\\b");
    private static final Pattern CLASS = Pattern.compile("\\bclass (\\w+)");
    private static final Pattern LIBRARY_CALL = Pattern.compile("\\b((?:Integer|Math|System)\\.\\w+)");
    private static final Pattern THROW = Pattern.compile("\\bthrow\\b([^;]*);");
    private static final Pattern LOOP = Pattern.compile("\\b(?:for|while) \\((.*)\\) \\{");

    public static void main(String[] args) throws Exception {
        if (args.length < 2) {
            complain("LanguageTest is called with the document and the program");
            end("LanguageTest");
            return;
        }
        String text = Files.readString(Path.of(args[1]));
        Source source = new Source(text);
        due("methods are found", source.methods.size() > 75, true);
        rule2NoLambdasAndNoOtherWords(source);
        rules3And4ClassesAndCalls(source);
        rule4SignsOfTheSource(text);
        rule5StaticFields(TicketChains.class);
        rule6Throws(source);
        rule8OnlyTheTryingCallsItself(source);
        rule9EachLoopHasABound(source);
        rule11Sizes(source);
        rule12NothingIsMadeByCalls(source);
        end("LanguageTest");
    }

    private static void rule2NoLambdasAndNoOtherWords(Source source) {
        for (String each : new String[] {"->", "::", "static {", "@", "[][]", "%="}) {
            due("the source has " + each, source.code.contains(each), false);
        }
        Set<String> words = new TreeSet<>(Source.found(WORD, source.code));
        for (String each : new String[] {"import", "package", "try", "catch", "finally", "synchronized", "assert",
            "transient", "volatile", "native", "protected", "instanceof", "float", "var", "record", "enum",
            "interface", "abstract", "extends", "implements", "null"}) {
            due("the source has the word " + each, words.contains(each), false);
        }
    }

    private static void rules3And4ClassesAndCalls(Source source) {
        Set<String> own = new TreeSet<>(Source.found(CLASS, source.code));
        for (String word : new TreeSet<>(Source.found(WORD, source.code))) {
            boolean constant = word.equals(word.toUpperCase());
            boolean known = own.contains(word) || EXCEPTIONS.contains(word) || LIBRARY_CLASSES.contains(word);
            due("the class " + word, !Character.isUpperCase(word.charAt(0)) || constant || known, true);
        }
        for (String call : Source.found(LIBRARY_CALL, source.code)) {
            due("the call " + call, LIBRARY.contains(call), true);
        }
    }

    private static void rule4SignsOfTheSource(String text) {
        for (int i = 0; i < text.length(); i++) {
            char sign = text.charAt(i);
            due("the sign " + (int) sign + " at " + i, sign == '\n' || sign >= ' ' && sign <= '~', true);
        }
    }

    private static void rule5StaticFields(Class<?> owner) {
        for (Field each : owner.getDeclaredFields()) {
            boolean isStatic = Modifier.isStatic(each.getModifiers());
            boolean constant = Modifier.isFinal(each.getModifiers()) && each.getType().isPrimitive();
            due("the static field " + each + " is a constant", !isStatic || constant, true);
        }
        for (Class<?> inside : owner.getDeclaredClasses()) {
            rule5StaticFields(inside);
        }
    }

    private static void rule6Throws(Source source) {
        Set<String> written = new TreeSet<>();
        for (String each : EXCEPTIONS) {
            written.add("new " + each + "(\"\")");
        }
        for (Source.Written method : source.methods) {
            List<String> thrown = Source.found(THROW, method.body());
            for (String each : thrown) {
                due("throw" + each + " in " + method.name(), written.contains(each.trim()), true);
            }
            boolean constructor = Character.isUpperCase(method.name().charAt(0));
            due("a throw in the constructor " + method.name(), constructor && !thrown.isEmpty(), false);
        }
    }

    private static void rule8OnlyTheTryingCallsItself(Source source) {
        dueText("methods that call themselves", String.join(",", source.thoseThatComeBack()), "tryFrom");
        for (Source.Written method : source.methods) {
            if (method.name().equals("tryFrom")) {
                due("tryFrom has its depth as an argument", method.parameters().contains("int depth"), true);
                due("tryFrom refuses to go deeper", method.body().contains("depth < MOST_TICKETS"), true);
            }
        }
    }

    private static void rule9EachLoopHasABound(Source source) {
        List<String> loops = Source.found(LOOP, source.code);
        int words = 0;
        for (String word : Source.found(WORD, source.code)) {
            words += word.equals("for") || word.equals("while") ? 1 : 0;
        }
        due("heads of loops", loops.size(), words);
        for (String head : loops) {
            due("a bound in the loop (" + head + ")", head.contains(" < ") || head.contains(" <= "), true);
        }
    }

    private static void rule11Sizes(Source source) {
        due("at most 12 classes", Source.found(CLASS, source.code).size() <= 12, true);
        for (Source.Written method : source.methods) {
            due("parameters of " + method.name() + " are 7 at most", method.parameterCount() <= 7, true);
            due("lines of " + method.name() + " are 60 at most", method.lines() <= 60, true);
            int depth = source.depthOf(method.name());
            due("calls that stand open, from " + method.name() + " on: " + depth, depth <= 8, true);
        }
    }

    /** Rows are made with the object alone: no call makes anything but an exception. */
    private static void rule12NothingIsMadeByCalls(Source source) {
        for (Source.Written method : source.methods) {
            if (!Character.isUpperCase(method.name().charAt(0))) {
                String body = method.body().replace("throw new ", "");
                due(method.name() + " makes something", body.contains("new "), false);
            }
        }
    }
}
