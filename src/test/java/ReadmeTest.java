import java.lang.reflect.InvocationTargetException;
import java.lang.reflect.Method;
import java.lang.reflect.Modifier;
import java.nio.file.Files;
import java.nio.file.Path;
import java.util.Set;
import java.util.TreeSet;
import java.util.regex.Matcher;
import java.util.regex.Pattern;

/**
 * README.md tells each call of the face, and behind each call that it tells stands what the class answers, and what
 * the Model answers, which tells the document a second time (but no refusals).
 */
public final class ReadmeTest {
    private static final String NEW = "Radixbench bench = new Radixbench();";
    private static final String CALLED = "bench\\.(\\w+)\\(([^()]*)\\)";
    private static final Pattern CALL = Pattern.compile(CALLED + "; +// (.+)");
    private static final Pattern PRINTED = Pattern.compile("System\\.out\\.println\\(" + CALLED + "\\); +// (.+)");
    private static final Pattern FRAME = Pattern.compile(
        "public final class \\w+ \\{|public static void main\\(String\\[\\] args\\) \\{|\\}|");
    private static final String REFUSED = "throws ";

    private static final Set<String> used = new TreeSet<>();
    private static Radixbench bench;
    private static Model model;

    public static void main(String[] args) throws Exception {
        boolean isJava = false;
        for (String whole : Files.readString(Path.of("README.md")).split("\n")) {
            String line = whole.trim();
            if (line.startsWith("```")) {
                isJava = line.equals("```java");
            } else if (isJava) {
                read(line);
            }
        }
        Due.is("README.md uses each method of the face", used, face());
        Due.end();
    }

    private static void read(String line) throws Exception {
        Matcher call = CALL.matcher(line);
        Matcher printed = PRINTED.matcher(line);
        if (line.equals(NEW)) {
            bench = new Radixbench();
            model = new Model();
        } else if (call.matches()) {
            answers(line, call);
        } else if (printed.matches()) {
            answers(line, printed);
        } else {
            Due.is("\"" + line + "\" is a call with its answer, or stands round calls", FRAME.matcher(line).matches(), true);
        }
    }

    private static void answers(String line, Matcher call) throws Exception {
        String name = call.group(1);
        String[] arguments = call.group(2).isEmpty() ? new String[0] : call.group(2).split(", ");
        used.add(name);
        isTold(line, call.group(3), answer(bench, name, arguments));
        if (!call.group(3).startsWith(REFUSED)) {
            isTold(line + ", and the Model", call.group(3), answer(model, name, arguments));
        }
    }

    /** What is told is the answer, and may go on with ": " and more words. */
    private static void isTold(String line, String told, String answer) {
        Due.is(line, told.startsWith(answer + ": ") ? answer : told, answer);
    }

    private static String answer(Object of, String name, String[] arguments) throws IllegalAccessException {
        Method method = method(of.getClass(), name);
        Class<?>[] types = method.getParameterTypes();
        Object[] values = new Object[arguments.length];
        for (int k = 0; k < values.length; k++) {
            values[k] = types[k] == int.class ? (Object) Integer.valueOf(arguments[k]) : truth(arguments[k]);
        }
        try {
            Object answer = method.invoke(of, values);
            return answer instanceof String ? "\"" + answer + "\"" : String.valueOf(answer);
        } catch (InvocationTargetException e) {
            return REFUSED + e.getCause().getClass().getSimpleName();
        }
    }

    private static Method method(Class<?> type, String name) {
        for (Method one : type.getDeclaredMethods()) {
            if (one.getName().equals(name) && !Modifier.isPrivate(one.getModifiers())) {
                return one;
            }
        }
        throw new IllegalArgumentException("README.md uses what is no method: " + name);
    }

    private static boolean truth(String argument) {
        Due.is("an argument \"" + argument + "\" is a boolean", argument.matches("true|false"), true);
        return argument.equals("true");
    }

    private static Set<String> face() {
        Set<String> face = new TreeSet<>();
        for (Method one : Radixbench.class.getDeclaredMethods()) {
            if (Modifier.isPublic(one.getModifiers())) {
                face.add(one.getName());
            }
        }
        return face;
    }
}
