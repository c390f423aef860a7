import java.lang.reflect.Constructor;
import java.lang.reflect.Field;
import java.lang.reflect.Method;
import java.lang.reflect.Modifier;
import java.nio.file.Files;
import java.nio.file.Path;
import java.util.ArrayList;
import java.util.List;
import java.util.Set;
import java.util.TreeSet;

/** The face is the document's, and no more of the class can be seen: LANGUAGE.md's rules 1 and 5. */
public final class FaceTest {
    public static void main(String[] args) throws Exception {
        Due.is("the document is named", args.length, 2);
        Set<String> told = new TreeSet<>();
        for (String line : Files.readString(Path.of(args[1])).split("\n")) {
            if (line.startsWith("    public ")) {
                told.add(plain(line));
            }
        }
        Due.is("the document tells 29 signatures", told.size(), 29);
        Due.is("the face", face(), told);
        Due.is("the class", Modifier.toString(Radixbench.class.getModifiers()), "public final");
        Due.is("the class has no package", Radixbench.class.getPackageName(), "");
        nothingElseIsSeen();
        statics(Radixbench.class);
        for (Class<?> inside : Radixbench.class.getDeclaredClasses()) {
            statics(inside);
        }
        Due.end();
    }

    private static String plain(String line) {
        return line.trim().replace(";", "").replaceAll("(int|boolean) \\w+([,)])", "$1$2");
    }

    private static Set<String> face() {
        Set<String> face = new TreeSet<>();
        for (Constructor<?> one : Radixbench.class.getConstructors()) {
            face.add("public Radixbench(" + names(one.getParameterTypes()) + ")" + thrown(one.getExceptionTypes()));
        }
        for (Method one : Radixbench.class.getDeclaredMethods()) {
            if (Modifier.isPublic(one.getModifiers())) {
                face.add(Modifier.toString(one.getModifiers()) + " " + one.getReturnType().getSimpleName() + " "
                    + one.getName() + "(" + names(one.getParameterTypes()) + ")" + thrown(one.getExceptionTypes()));
            }
        }
        return face;
    }

    private static String names(Class<?>[] types) {
        List<String> names = new ArrayList<>();
        for (Class<?> type : types) {
            names.add(type.getSimpleName());
        }
        return String.join(", ", names);
    }

    private static String thrown(Class<?>[] types) {
        return types.length == 0 ? "" : " throws " + names(types);
    }

    private static void nothingElseIsSeen() {
        Set<String> open = new TreeSet<>();
        for (Method one : Radixbench.class.getDeclaredMethods()) {
            if (Modifier.isPublic(one.getModifiers())) {
                open.add(one.getName());
            }
        }
        for (Method one : Radixbench.class.getDeclaredMethods()) {
            boolean isFace = Modifier.isPublic(one.getModifiers());
            Due.is(one + " is seen", isFace || Modifier.isPrivate(one.getModifiers()), true);
            Due.is(one + " bears a public name", !isFace && open.contains(one.getName()), false);
        }
        for (Field one : Radixbench.class.getDeclaredFields()) {
            Due.is(one + " is private", Modifier.isPrivate(one.getModifiers()), true);
        }
        Due.is("one constructor", Radixbench.class.getDeclaredConstructors().length, 1);
    }

    private static void statics(Class<?> type) {
        for (Field one : type.getDeclaredFields()) {
            boolean isStatic = Modifier.isStatic(one.getModifiers());
            Due.is(one + " is final", !isStatic || Modifier.isFinal(one.getModifiers()), true);
        }
    }
}
