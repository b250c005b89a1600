import java.io.IOException;
import java.lang.reflect.Field;
import java.lang.reflect.Method;
import java.lang.reflect.Modifier;
import java.nio.file.Files;
import java.nio.file.Path;
import java.util.Set;
import java.util.TreeSet;
import java.util.regex.Matcher;
import java.util.regex.Pattern;

/** The public face of the class, and rules of LANGUAGE.md that can be seen in the words of its file. */
public final class PairedStepsFace {
    private static final Path FILE = Path.of("src/main/java/PairedSteps.java");
    private static final Set<String> FACE = Set.of("append/1", "clearText/0", "read/1", "copy/0", "exchange/0", "cut/2",
        "undo/0", "count/1", "program/2", "run/4", "told/4", "cell/5", "pairs/3", "equal/3", "difference/2", "agree/3",
        "always/1", "idle/1");
    private static final Set<String> CONSTANTS = Set.of("INVALID_ARGUMENT", "ILLEGAL_STATE", "CAPACITY_EXCEEDED", "NONE");

    private static int wrong = 0;

    private static void hold(boolean holds, String rule) {
        if (!holds) {
            wrong++;
            System.out.println("does not hold: " + rule);
        }
    }

    public static void main(String[] args) throws IOException {
        face();
        insideClasses();
        words();
        System.out.println(wrong == 0 ? "all rules hold" : wrong + " rules do not hold");
        if (wrong != 0) {
            System.exit(1);
        }
    }

    private static void face() {
        Class<?> face = PairedSteps.class;
        hold(Modifier.isPublic(face.getModifiers()) && Modifier.isFinal(face.getModifiers()), "public and final");
        hold(face.getPackageName().isEmpty(), "no package");
        hold(face.getDeclaredConstructors().length == 1 && face.getConstructors().length == 1
            && face.getConstructors()[0].getParameterCount() == 0, "one public constructor without parameters");
        Set<String> found = new TreeSet<>();
        for (Method method : face.getDeclaredMethods()) {
            if (Modifier.isPrivate(method.getModifiers()) || method.isSynthetic()) {
                noPublicName(method);
            } else {
                found.add(method.getName() + "/" + method.getParameterCount());
                hold(Modifier.isPublic(method.getModifiers()) && method.getReturnType() == int.class,
                    "public, and answers an int: " + method.getName());
            }
        }
        hold(found.equals(new TreeSet<>(FACE)), "the methods of the face: " + found);
        Set<String> constants = new TreeSet<>();
        for (Field field : face.getDeclaredFields()) {
            if (!Modifier.isPrivate(field.getModifiers())) {
                constants.add(field.getName());
            }
        }
        hold(constants.equals(new TreeSet<>(CONSTANTS)), "the constants of the face: " + constants);
    }

    private static void insideClasses() {
        Class<?>[] inside = PairedSteps.class.getDeclaredClasses();
        hold(inside.length <= 12, "at most twelve classes");
        for (Class<?> one : inside) {
            hold(Modifier.isStatic(one.getModifiers()), "static: " + one.getName());
            hold(!Modifier.isPublic(one.getModifiers()), "not public: " + one.getName());
            hold(one.getDeclaredFields().length <= 20, "at most twenty fields: " + one.getName());
            for (Method method : one.getDeclaredMethods()) {
                hold(method.getParameterCount() <= 7, "at most seven parameters: " + method.getName());
                noPublicName(method);
            }
        }
    }

    private static void noPublicName(Method method) {
        hold(FACE.stream().noneMatch(name -> name.startsWith(method.getName() + "/")),
            "no private method with a public name: " + method.getName());
    }

    private static void words() throws IOException {
        String code = Files.readString(FILE).replaceAll("(?s)/\\*.*?\\*/", "").replaceAll("//[^\n]*", "");
        for (String word : new String[] {"import", "package", "throw", "throws", "try", "catch", "synchronized", "assert",
            "equals", "hashCode", "toString", "System\\.(?!arraycopy)", "Math\\.\\w+Exact", "->", "::", "\"", "while"}) {
            Matcher matcher = Pattern.compile(word.matches("\\w+") ? "\\b" + word + "\\b" : word).matcher(code);
            hold(!matcher.find(), "no " + word);
        }
        hold(code.chars().allMatch(sign -> sign < 128), "signs of 1 to 127");
    }
}
