import java.io.IOException;
import java.lang.reflect.Constructor;
import java.lang.reflect.Field;
import java.lang.reflect.Method;
import java.lang.reflect.Modifier;
import java.nio.file.Files;
import java.nio.file.Path;
import java.util.Arrays;
import java.util.List;
import java.util.Set;
import java.util.TreeSet;

/** The document's face, and those rules of LANGUAGE.md that can be seen from outside or by words. */
public final class FaceTest {
    private static final List<String> FACE = List.of(
        "int puzzle(int, int, int)", "int run(int, int, int, int)", "int told(int, int)",
        "int clue(int, int, int, int)", "boolean fresh(int)", "boolean choose(int, int, int)",
        "boolean bar(int, int, int)", "int set(int, int)", "int step(int, int)", "int ways(int, int)",
        "int settle(int)", "int search(int, int, int)", "int found(int)", "int picture(int, int)", "int grade(int)",
        "int probes()", "boolean paint(int, int, int)", "int make(int, int, int)", "int turn(int, int)",
        "int same(int, int)", "int game(int)", "boolean mark(int, int, int)", "int marked(int, int)", "int undo(int)",
        "int redo(int)", "int hint(int)", "int state(int, int)", "int write(int, int)", "int out(int)",
        "int count(int)");
    private static final List<String> FORBIDDEN_WORDS = List.of("throw", "throws", "try", "catch", "synchronized",
        "assert", "finally", "Object", "Random", "System.out", "System.currentTimeMillis", "System.nanoTime",
        "Thread", "hashCode", "toString", "volatile", "native");

    public static void main(String[] args) throws IOException {
        theClass();
        theMethods();
        theFields();
        theClassesInside();
        theWords();
        Check.end("FaceTest");
    }

    private static void theClass() {
        int modifiers = RunPictures.class.getModifiers();
        Check.holds("the class is public", Modifier.isPublic(modifiers));
        Check.holds("the class is final", Modifier.isFinal(modifiers));
        Check.holds("the class has no package", RunPictures.class.getPackageName().isEmpty());
        Constructor<?>[] constructors = RunPictures.class.getDeclaredConstructors();
        Check.due("constructors", constructors.length, 1);
        Check.holds("it is public", Modifier.isPublic(constructors[0].getModifiers()));
        Check.due("its parameters", constructors[0].getParameterCount(), 0);
    }

    private static String signature(Method method) {
        List<String> types = Arrays.stream(method.getParameterTypes()).map(Class::getSimpleName).toList();
        return method.getReturnType().getSimpleName() + " " + method.getName() + "(" + String.join(", ", types) + ")";
    }

    private static void theMethods() {
        Set<String> missing = new TreeSet<>(FACE);
        Set<String> names = new TreeSet<>();
        for (String signature : FACE) {
            names.add(signature.replaceAll("^\\w+ |\\(.*", ""));
        }
        for (Method method : RunPictures.class.getDeclaredMethods()) {
            boolean open = Modifier.isPublic(method.getModifiers());
            Check.holds(method + " is public or private", open || Modifier.isPrivate(method.getModifiers()));
            Check.holds(method + " is in the face or private", open == missing.remove(signature(method)));
            Check.holds(method + " bears no name of the face", open || !names.contains(method.getName()));
        }
        Check.holds("the face is whole, but for " + missing, missing.isEmpty());
        for (Class<?> inside : RunPictures.class.getDeclaredClasses()) {
            for (Method method : inside.getDeclaredMethods()) {
                Check.holds(method + " bears no name of the face", !names.contains(method.getName()));
                Check.holds(method + " has at most seven parameters", method.getParameterCount() <= 7);
            }
        }
    }

    private static void theFields() {
        for (Field field : RunPictures.class.getDeclaredFields()) {
            int modifiers = field.getModifiers();
            Check.holds(field + " is NONE or private", Modifier.isPrivate(modifiers) || field.getName().equals("NONE"));
            Check.holds(field + " is final if static", Modifier.isFinal(modifiers) || !Modifier.isStatic(modifiers));
        }
    }

    private static void theClassesInside() {
        Class<?>[] inside = RunPictures.class.getDeclaredClasses();
        Check.holds("at most twelve classes", inside.length < 12);
        for (Class<?> one : inside) {
            int modifiers = one.getModifiers();
            Check.holds(one + " is static", Modifier.isStatic(modifiers));
            Check.holds(one + " isn't of the face", !Modifier.isPublic(modifiers) && !Modifier.isProtected(modifiers));
            Check.holds(one + " has at most twenty fields", one.getDeclaredFields().length <= 20);
        }
    }

    private static void theWords() throws IOException {
        String text = Files.readString(Path.of("src/main/java/RunPictures.java"));
        String code = text.replaceAll("(?s)/\\*.*?\\*/", " ").replaceAll("//[^\n]*", " ");
        for (String word : FORBIDDEN_WORDS) {
            Check.holds("no word " + word, !code.matches("(?s).*\\b" + word.replace(".", "\\.") + "\\b.*"));
        }
        Check.holds("no lambda", !code.contains("->"));
        Check.holds("no method reference", !code.contains("::"));
        Check.holds("no function that throws", !code.contains("Exact("));
        for (String line : code.split("\n")) {
            if (line.startsWith("import ")) {
                Check.holds(line, line.matches("import java\\.util\\.(Arrays|ArrayList|List);"));
            }
        }
    }
}
