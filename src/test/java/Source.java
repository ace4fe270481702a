import java.util.ArrayList;
import java.util.List;
import java.util.Map;
import java.util.Set;
import java.util.TreeMap;
import java.util.TreeSet;
import java.util.regex.Matcher;
import java.util.regex.Pattern;

/** The text of a program without its comments, and the methods that stand in it. */
final class Source {
    record Written(String name, String parameters, String body) {
        int parameterCount() {
            return parameters.isBlank() ? 0 : parameters.split(",").length;
        }

        long lines() {
            return body.chars().filter(sign -> sign == '\n').count() + 1;
        }
    }

    private static final Pattern HEAD = Pattern.compile(
            "(?:(?:public|private|static|final)\\s+)*(?:[\\w\\[\\]]+\\s+)?(\\w+)\\(([^()]*)\\)\\s*(?:throws [\\w,\\s]+)?\\{");
    private static final Pattern CALL = Pattern.compile("\\b(\\w+)\\(");
    private static final Set<String> NO_NAMES = Set.of("if", "for", "while", "switch", "catch", "return", "else");

    final String code;
    final List<Written> methods = new ArrayList<>();
    private final Map<String, Set<String>> calls = new TreeMap<>();

    Source(String text) {
        code = withoutCommentsAndTexts(text);
        Matcher head = HEAD.matcher(code);
        while (head.find()) {
            if (!NO_NAMES.contains(head.group(1))) {
                methods.add(new Written(head.group(1), head.group(2), code.substring(head.end(), endOfBlock(head.end()))));
            }
        }
        for (Written method : methods) {
            calls.computeIfAbsent(method.name(), name -> new TreeSet<>()).addAll(found(CALL, method.body()));
        }
        for (Set<String> called : calls.values()) {
            called.retainAll(calls.keySet());
        }
    }

    /** A text becomes "", a sign becomes ' ', so that braces in them count for nothing. */
    private static String withoutCommentsAndTexts(String text) {
        String without = Pattern.compile("/\\*.*?\\*/", Pattern.DOTALL).matcher(text).replaceAll("");
        without = without.replaceAll("//.*", "");
        without = without.replaceAll("'(\\\\.|[^'\\\\])'", "' '");
        return without.replaceAll("\"(\\\\.|[^\"\\\\])*\"", "\"\"");
    }

    private int endOfBlock(int begin) {
        int open = 1;
        int at = begin;
        while (open > 0 && at < code.length()) {
            open += code.charAt(at) == '{' ? 1 : code.charAt(at) == '}' ? -1 : 0;
            at++;
        }
        return at;
    }

    /** The first group of each place where the pattern is found in the text. */
    static List<String> found(Pattern pattern, String text) {
        List<String> found = new ArrayList<>();
        Matcher matcher = pattern.matcher(text);
        while (matcher.find()) {
            found.add(matcher.group(1));
        }
        return found;
    }

    /** The names of methods that call themselves, at once or by way of others. */
    Set<String> thoseThatComeBack() {
        Set<String> found = new TreeSet<>();
        for (String name : calls.keySet()) {
            Set<String> reached = new TreeSet<>();
            reach(name, reached);
            if (reached.contains(name)) {
                found.add(name);
            }
        }
        return found;
    }

    private void reach(String name, Set<String> reached) {
        for (String next : calls.get(name)) {
            if (reached.add(next)) {
                reach(next, reached);
            }
        }
    }

    /** How many calls stand open at most, this one too; a call of itself does not count. */
    int depthOf(String name) {
        int deepest = 0;
        for (String next : calls.get(name)) {
            if (!next.equals(name)) {
                deepest = Math.max(deepest, depthOf(next));
            }
        }
        return deepest + 1;
    }
}
