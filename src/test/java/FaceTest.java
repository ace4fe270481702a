import java.lang.reflect.Constructor;
import java.lang.reflect.Field;
import java.lang.reflect.Method;
import java.lang.reflect.Modifier;
import java.nio.file.Files;
import java.nio.file.Path;
import java.util.ArrayList;
import java.util.List;
import java.util.Set;
import java.util.TreeSet;

/** The face of the class is that of the document, and nothing else can be seen from outside. */
final class FaceTest extends Due {
    public static void main(String[] args) throws Exception {
        if (args.length < 1) {
            complain("FaceTest is called with the document");
        } else {
            faceOfTheDocument(Path.of(args[0]));
            membersThatAreNotPublic();
        }
        end("FaceTest");
    }

    private static void faceOfTheDocument(Path document) throws Exception {
        Set<String> want = new TreeSet<>();
        boolean inFace = false;
        for (String line : Files.readAllLines(document)) {
            if (line.startsWith("public final class TicketChains")) {
                inFace = true;
            } else if (inFace && line.startsWith("}")) {
                inFace = false;
            } else if (inFace) {
                want.add(withoutNames(line.trim()));
            }
        }
        Set<String> got = new TreeSet<>();
        for (Constructor<?> each : TicketChains.class.getConstructors()) {
            got.add("public TicketChains()" + thrown(each.getExceptionTypes()));
            due("parameters of the constructor", each.getParameterCount(), 0);
        }
        for (Method each : TicketChains.class.getDeclaredMethods()) {
            if (Modifier.isPublic(each.getModifiers())) {
                got.add("public " + each.getReturnType() + " " + each.getName() + "("
                        + types(each.getParameterTypes()) + ")" + thrown(each.getExceptionTypes()));
            }
        }
        due("promises", want.size(), 75);
        dueText("the face", String.join("\n", got), String.join("\n", want));
        due("the class is public and final", TicketChains.class.getModifiers(), Modifier.PUBLIC | Modifier.FINAL);
    }

    /** "public int f(int a, int b) throws X;" becomes "public int f(int, int) throws X". */
    private static String withoutNames(String line) {
        int open = line.indexOf('(');
        int shut = line.indexOf(')');
        List<String> parameters = new ArrayList<>();
        for (String each : line.substring(open + 1, shut).split(",")) {
            parameters.add(each.trim().split(" ")[0]);
        }
        return line.substring(0, open + 1) + String.join(", ", parameters) + line.substring(shut).replace(";", "");
    }

    private static String types(Class<?>[] types) {
        List<String> names = new ArrayList<>();
        for (Class<?> each : types) {
            names.add(each.getSimpleName());
        }
        return String.join(", ", names);
    }

    private static String thrown(Class<?>[] types) {
        return types.length == 0 ? "" : " throws " + types(types);
    }

    private static void membersThatAreNotPublic() {
        Set<String> publicNames = new TreeSet<>();
        for (Method each : TicketChains.class.getDeclaredMethods()) {
            if (Modifier.isPublic(each.getModifiers())) {
                publicNames.add(each.getName());
            }
        }
        for (Method each : TicketChains.class.getDeclaredMethods()) {
            boolean fits = Modifier.isPublic(each.getModifiers())
                    || Modifier.isPrivate(each.getModifiers()) && !publicNames.contains(each.getName());
            due("the method " + each, fits, true);
        }
        for (Field each : TicketChains.class.getDeclaredFields()) {
            due("the field " + each + " is private", Modifier.isPrivate(each.getModifiers()), true);
            due("the field " + each + " is final", Modifier.isFinal(each.getModifiers()), true);
        }
        for (Class<?> each : TicketChains.class.getDeclaredClasses()) {
            due(each + " is private", Modifier.isPrivate(each.getModifiers()), true);
            for (Method method : each.getDeclaredMethods()) {
                due("the method " + method, publicNames.contains(method.getName()), false);
            }
            int fields = 0;
            for (Field field : each.getDeclaredFields()) {
                fields++;
            }
            due(each + " has at most 20 fields", fields <= 20, true);
        }
        due("at most 12 classes", TicketChains.class.getDeclaredClasses().length < 12, true);
    }
}
