import java.io.IOException;
import java.lang.reflect.Constructor;
import java.lang.reflect.Field;
import java.lang.reflect.Method;
import java.lang.reflect.Modifier;
import java.nio.file.Files;
import java.nio.file.Path;
import java.util.Set;
import java.util.TreeSet;
import java.util.regex.Matcher;
import java.util.regex.Pattern;

/** The public face is the document's, and the source keeps to those rules of the language that a text can show. */
public final class FaceTest {
    private static final String[] FACE = {
        "int pieces(int,int)", "int piece(int,int,int,int,int)", "int of(int,int,int)", "long value(int,int,int,int)",
        "int join(int,int)", "int has(int,int)", "int end(int,int)", "int zeros(int)", "int zero(int,int)",
        "long area(int,int,int,int)", "int same(int,int)", "int meets(int,int)", "int mix(int,int,int,int,int)",
        "int refine(int,int)", "int slope(int,int)", "int push(int,int)", "int point(int)", "int clear()",
        "int slopes(int,int)", "int best(int)", "long bend(int)", "int spline(int,int)", "int count(int,int)"};
    private static final String[] RULED_OUT = {
        "throw", "throws", "try", "catch", "finally", "synchronized", "assert", "package", "protected", "native",
        "Object", "hashCode", "Thread", "Random"};
    private static final Set<String> IMPORTS = Set.of("java.util.ArrayList", "java.util.Arrays", "java.util.Iterator",
            "java.util.List");
    private static final Set<String> LIBRARY = Set.of("System.arraycopy", "Arrays.copyOf", "Arrays.copyOfRange",
            "Arrays.fill", "List.of");

    private FaceTest() {
    }

    public static void main(String[] args) throws IOException {
        methods();
        constants();
        constructors();
        nestedClasses();
        source(Files.readString(Path.of(args.length > 0 ? args[0] : "src/main/java/SmoothPieces.java")));
        Checks.finish("FaceTest");
    }

    private static String told(Method method) {
        StringBuilder built = new StringBuilder(method.getReturnType().getName());
        built.append(' ').append(method.getName()).append('(');
        Class<?>[] types = method.getParameterTypes();
        for (int k = 0; k < types.length; k++) {
            built.append(k == 0 ? "" : ",").append(types[k].getName());
        }
        return built.append(')').toString();
    }

    private static void methods() {
        Set<String> due = new TreeSet<>(Set.of(FACE));
        Set<String> found = new TreeSet<>();
        Set<String> publicNames = new TreeSet<>();
        for (Method method : SmoothPieces.class.getDeclaredMethods()) {
            if (Modifier.isPublic(method.getModifiers())) {
                found.add(told(method));
                publicNames.add(method.getName());
                Checks.holds(method + " is an object's", !Modifier.isStatic(method.getModifiers()));
            }
        }
        Checks.holds("the public methods are the document's: " + found, found.equals(due));
        for (Method method : SmoothPieces.class.getDeclaredMethods()) {
            int modifiers = method.getModifiers();
            Checks.holds(method + " is public or private", isOpenOrShut(modifiers));
            Checks.holds(method + " has a name of its own",
                    Modifier.isPublic(modifiers) || !publicNames.contains(method.getName()));
            Checks.holds(method + " takes seven at most", method.getParameterCount() <= 7);
        }
    }

    private static boolean isOpenOrShut(int modifiers) {
        return Modifier.isPublic(modifiers) || Modifier.isPrivate(modifiers);
    }

    private static void constants() {
        Checks.due("NONE", SmoothPieces.NONE, -1);
        Checks.due("UNKNOWN", SmoothPieces.UNKNOWN, -2);
        Checks.due("OUTSIDE", SmoothPieces.OUTSIDE, -3);
        Checks.due("NOT", SmoothPieces.NOT, -4);
        Checks.due("GREAT", SmoothPieces.GREAT, -5);
        Checks.due("FULL", SmoothPieces.FULL, -6);
        int open = 0;
        for (Field field : SmoothPieces.class.getDeclaredFields()) {
            int modifiers = field.getModifiers();
            open += Modifier.isPublic(modifiers) ? 1 : 0;
            Checks.holds(field + " is public or private", isOpenOrShut(modifiers));
            Checks.holds(field + ": static ones are final",
                    !Modifier.isStatic(modifiers) || Modifier.isFinal(modifiers));
        }
        Checks.due("public constants", open, 6);
    }

    private static void constructors() {
        Constructor<?>[] all = SmoothPieces.class.getDeclaredConstructors();
        Checks.due("constructors", all.length, 1);
        Checks.holds("it is public", Modifier.isPublic(all[0].getModifiers()));
        Checks.due("it takes nothing", all[0].getParameterCount(), 0);
        int modifiers = SmoothPieces.class.getModifiers();
        Checks.holds("public and final", Modifier.isPublic(modifiers) && Modifier.isFinal(modifiers));
    }

    private static void nestedClasses() {
        for (Class<?> inside : SmoothPieces.class.getDeclaredClasses()) {
            int modifiers = inside.getModifiers();
            Checks.holds(inside + " is static", Modifier.isStatic(modifiers));
            Checks.holds(inside + " is private or package-visible",
                    !Modifier.isPublic(modifiers) && !Modifier.isProtected(modifiers));
        }
    }

    private static void source(String text) {
        String code = text.replaceAll("(?s)/\\*.*?\\*/", " ").replaceAll("//[^\n]*", " ");
        for (String word : RULED_OUT) {
            Matcher matcher = Pattern.compile("\\b" + word + "\\b").matcher(code);
            Checks.holds("no " + word + " in the source", !matcher.find());
        }
        for (String line : code.split("\n")) {
            boolean isArrowOfSwitch = line.contains("case ") || line.contains("default ");
            Checks.holds("no lambda, no method reference in " + line,
                    (isArrowOfSwitch || !line.contains("->")) && !line.contains("::"));
        }
        Matcher imports = Pattern.compile("\\bimport\\s+([\\w.]+)").matcher(code);
        while (imports.find()) {
            Checks.holds(imports.group(1) + " is in the library that is left", IMPORTS.contains(imports.group(1)));
        }
        Matcher calls = Pattern.compile("\\b(Math|Integer|Long|System|Arrays|List)\\.(\\w+)").matcher(code);
        while (calls.find()) {
            boolean isOfNumbers = Set.of("Math", "Integer", "Long").contains(calls.group(1));
            Checks.holds(calls.group() + " is in the library that is left",
                    isOfNumbers ? !calls.group(2).endsWith("Exact") : LIBRARY.contains(calls.group()));
        }
    }
}
