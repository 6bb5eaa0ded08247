import java.io.IOException;
import java.lang.reflect.Constructor;
import java.lang.reflect.Field;
import java.lang.reflect.Method;
import java.lang.reflect.Modifier;
import java.nio.file.Files;
import java.nio.file.Path;
import java.util.Map;
import java.util.TreeMap;

/** The public face as the document has it, no other visible member, and what LANGUAGE.md keeps out. */
final class FaceTest {
    private static final String[] FACE = {"begin int int int", "go int int", "group int int", "sign int int",
        "blank int", "write int int", "as int int int", "wrong int", "see int int", "tell int int int",
        "openly int int int", "cry int int", "lie int int", "clashed int int", "swear int int", "pact int int",
        "binding", "holds int", "many int", "fails int", "like int int", "world int int", "known int boolean",
        "lessons int", "lesson int int", "mark", "then int int", "since int", "sheet int int int",
        "put int int int", "copy int int int int int", "undo", "all int"};

    private static final String[] KEPT_OUT = {"throw", "try", "catch", "finally", "synchronized", "assert", "native",
        "volatile", "transient", "var", "Object", "System.out", "Exact", "toString", "hashCode", "->", "::",
        "protected", "abstract class", "\"", "while (true)", "for (;;)", "double", "float", "package"};

    public static void main(String[] args) throws IOException {
        Due.holds("public and final", Modifier.isPublic(TownKnows.class.getModifiers())
            && Modifier.isFinal(TownKnows.class.getModifiers()));
        Map<String, Integer> names = new TreeMap<>();
        for (Method method : TownKnows.class.getDeclaredMethods()) {
            method(method, names);
        }
        for (String each : FACE) {
            Due.is("face: " + each, names.getOrDefault(each, 0), 1);
            Due.is("methods named as " + each, names.get("#" + each.split(" ")[0]), 1);
        }
        Due.is("constructors", TownKnows.class.getDeclaredConstructors().length, 1);
        Constructor<?> maker = TownKnows.class.getDeclaredConstructors()[0];
        Due.holds("a public one", Modifier.isPublic(maker.getModifiers()) && maker.getParameterCount() == 0);
        fields(TownKnows.class);
        for (Class<?> inside : TownKnows.class.getDeclaredClasses()) {
            Due.holds(inside + " is static", Modifier.isStatic(inside.getModifiers()));
            Due.holds(inside + " is private", Modifier.isPrivate(inside.getModifiers()));
            fields(inside);
        }
        Due.holds("some twelve classes", TownKnows.class.getDeclaredClasses().length <= 12);
        source();
        Due.end("FaceTest");
    }

    private static void method(Method method, Map<String, Integer> names) {
        names.merge("#" + method.getName(), 1, Integer::sum);
        int modifiers = method.getModifiers();
        if (Modifier.isPublic(modifiers)) {
            StringBuilder face = new StringBuilder(method.getName());
            for (Class<?> type : method.getParameterTypes()) {
                face.append(' ').append(type.getName());
            }
            names.merge(face.toString(), 1, Integer::sum);
            Due.holds(face + " answers int", method.getReturnType() == int.class);
            boolean due = false;
            for (String each : FACE) {
                due = due || each.equals(face.toString());
            }
            Due.holds(face + " is of the face", due);
        } else {
            Due.holds(method + " is private", Modifier.isPrivate(modifiers));
        }
        Due.holds(method + " takes at most seven", method.getParameterCount() <= 7);
    }

    private static void fields(Class<?> type) {
        int count = 0;
        for (Field field : type.getDeclaredFields()) {
            int modifiers = field.getModifiers();
            if (Modifier.isStatic(modifiers)) {
                Due.holds(field + " is final", Modifier.isFinal(modifiers));
                Due.holds(field + " is a number", field.getType() == int.class);
            } else {
                count++;
            }
            if (type == TownKnows.class) {
                Due.holds(field + " is private", Modifier.isPrivate(modifiers));
            }
        }
        Due.holds(type + " has some twenty fields at most", count <= 20);
    }

    private static void source() throws IOException {
        String text = Files.readString(Path.of("src/main/java/TownKnows.java"));
        StringBuilder code = new StringBuilder();
        int open = 0;
        int number = 0;
        for (String line : text.split("\n")) {
            number++;
            String bare = line.strip();
            boolean comment = bare.startsWith("//") || bare.startsWith("/*") || bare.startsWith("*");
            if (!comment) {
                code.append(line).append('\n');
            }
            if (line.matches(" {4,8}[a-zA-Z].*\\) \\{") && !comment) {
                open = number;
            }
            if (line.matches(" {4,8}\\}")) {
                Due.holds("a method of some sixty lines ends at " + number, open == 0 || number - open <= 60);
                open = 0;
            }
        }
        for (String word : KEPT_OUT) {
            boolean whole = Character.isLetter(word.charAt(0));
            String pattern = whole ? "(?s).*\\b" + java.util.regex.Pattern.quote(word) + "\\b.*"
                : "(?s).*" + java.util.regex.Pattern.quote(word) + ".*";
            Due.holds("no " + word, !code.toString().matches(pattern));
        }
        Due.holds("signs 1 to 127", text.chars().allMatch(c -> c > 0 && c < 128));
        Due.holds("one import", code.toString().split("\nimport |^import ").length <= 2);
    }
}
