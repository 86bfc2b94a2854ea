import java.io.IOException;
import java.lang.reflect.Constructor;
import java.lang.reflect.Field;
import java.lang.reflect.Method;
import java.lang.reflect.Modifier;
import java.nio.file.Files;
import java.nio.file.Path;
import java.util.List;
import java.util.Set;
import java.util.TreeSet;
import java.util.regex.Matcher;
import java.util.regex.Pattern;

/** The face of the document, and those rules of LANGUAGE.md that a program can look at. */
public final class LanguageTest {
    private static final Kit KIT = new Kit("LanguageTest");
    private static final Path SOURCE = Path.of("src/main/java/CensusDesk.java");
    private static final Set<String> FACE = Set.of(
        "int feed(int, int, int, int, int)", "int end(int)", "int rule(int, int, int)", "int receive()", "int resume()",
        "int drop()", "int failures()", "int failure(int, int)", "int many(int)", "int depth(int)", "int sheet(int)",
        "int sum(int)", "int house(int, int)", "int person(int, int)", "int sign(int, int)",
        "int named(int, int, int, int)", "int audit()");

    public static void main(String[] args) throws IOException {
        face();
        nestedClasses();
        staticFields(CensusDesk.class);
        source(Files.readString(SOURCE));
        KIT.finish();
    }

    private static void face() {
        Set<String> methods = new TreeSet<>();
        for (Method method : CensusDesk.class.getDeclaredMethods()) {
            if (!Modifier.isPrivate(method.getModifiers())) methods.add(shown(method));
        }
        KIT.due("methods that are not private", methods.toString(), new TreeSet<>(FACE).toString());
        Set<String> constants = new TreeSet<>();
        for (Field field : CensusDesk.class.getDeclaredFields()) {
            if (!Modifier.isPrivate(field.getModifiers())) constants.add(Modifier.toString(field.getModifiers()) + " " + field.getName());
        }
        KIT.due("fields that are not private", constants.toString(), "[public static final HELD, public static final NONE]");
        Constructor<?>[] constructors = CensusDesk.class.getDeclaredConstructors();
        KIT.due("constructors", constructors.length == 1 ? constructors[0].toString() : "many", "public CensusDesk()");
        KIT.due("the class", Modifier.toString(CensusDesk.class.getModifiers()), "public final");
    }

    private static String shown(Method method) {
        List<String> types = List.of(method.getParameterTypes()).stream().map(Class::getSimpleName).toList();
        return method.getReturnType().getSimpleName() + " " + method.getName() + "(" + String.join(", ", types) + ")";
    }

    private static void nestedClasses() {
        Class<?>[] nested = CensusDesk.class.getDeclaredClasses();
        KIT.due("at most twelve classes", nested.length < 12 ? "yes" : "no", "yes");
        for (Class<?> one : nested) {
            int modifiers = one.getModifiers();
            boolean isFine = Modifier.isStatic(modifiers) && !Modifier.isPublic(modifiers) && !Modifier.isProtected(modifiers);
            KIT.due(one.getSimpleName() + " is static, not public", isFine ? "yes" : "no", "yes");
            staticFields(one);
            int fields = 0;
            for (Field field : one.getDeclaredFields()) fields += Modifier.isStatic(field.getModifiers()) ? 0 : 1;
            KIT.due(one.getSimpleName() + " has at most twenty fields", fields <= 20 ? "yes" : "no", "yes");
            for (Method method : one.getDeclaredMethods()) {
                KIT.due(one.getSimpleName() + "." + method.getName() + ": at most seven parameters",
                    method.getParameterCount() <= 7 ? "yes" : "no", "yes");
                KIT.due(one.getSimpleName() + "." + method.getName() + ": no public method's name",
                    FACE.stream().anyMatch(call -> call.contains(" " + method.getName() + "(")) ? "no" : "yes", "yes");
            }
        }
    }

    private static void staticFields(Class<?> of) {
        for (Field field : of.getDeclaredFields()) {
            if (!Modifier.isStatic(field.getModifiers())) continue;
            KIT.due(field + " is final", Modifier.isFinal(field.getModifiers()) ? "yes" : "no", "yes");
        }
    }

    private static void source(String text) {
        String code = text.replaceAll("(?s)/\\*.*?\\*/", " ").replaceAll("//[^\n]*", " ");
        String[] words = {
            "throw", "throws", "try", "catch", "synchronized", "assert", "package", "instanceof", "record", "Object",
            "Exception", "System", "Random", "Thread", "hashCode", "toString", "getClass", "->", "::"
        };
        for (String word : words) {
            String pattern = Character.isLetter(word.charAt(0)) ? "\\b" + word + "\\b" : Pattern.quote(word);
            KIT.due("the word " + word, Pattern.compile(pattern).matcher(code).find() ? "is there" : "is not there", "is not there");
        }
        Matcher imports = Pattern.compile("import ([^;]+);").matcher(code);
        while (imports.find()) KIT.due("an import", imports.group(1), "java.util.Arrays");
        Matcher uses = Pattern.compile("\\bArrays\\.(\\w+)").matcher(code);
        while (uses.find()) KIT.due("of Arrays", uses.group(1), "fill");
        KIT.due("no static block", Pattern.compile("\\bstatic\\s*\\{").matcher(code).find() ? "no" : "yes", "yes");
        methodLengths(text);
    }

    private static void methodLengths(String text) {
        String[] lines = text.split("\n");
        int start = -1;
        for (int n = 0; n < lines.length; n++) {
            if (start < 0 && lines[n].matches(" {4,8}[^ /*].*\\) \\{")) start = n;
            if (start < 0 || !lines[n].equals(lines[start].replaceAll("\\S.*", "") + "}")) continue;
            KIT.due("at most sixty lines: " + lines[start].trim(), n - start < 60 ? "yes" : "no", "yes");
            start = -1;
        }
    }
}
