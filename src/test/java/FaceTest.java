import java.io.IOException;
import java.lang.reflect.Constructor;
import java.lang.reflect.Field;
import java.lang.reflect.Method;
import java.lang.reflect.Modifier;
import java.nio.file.Files;
import java.nio.file.Path;
import java.util.ArrayList;
import java.util.Arrays;
import java.util.Collections;
import java.util.List;
import java.util.Map;
import java.util.TreeMap;
import java.util.regex.Matcher;
import java.util.regex.Pattern;

/** The public face as the document tells it, and what of LANGUAGE.md can be read off the class. */
final class FaceTest {
    private static final Checks CHECKS = new Checks("FaceTest");
    private static final Path DOCUMENT = Path.of("../shared/DOC.md");
    private static final Path PROGRAM = Path.of("src/main/java/LayeredImages.java");
    private static final List<Class<?>> CONSTANT_TYPES = List.of(int.class, long.class,
            boolean.class, char.class, String.class, int[].class, long[].class, char[].class,
            byte[].class);
    /** By the number of the rule; an arrow is a lambda unless a label of a switch ends with it. */
    private static final Map<String, String> FORBIDDEN = new TreeMap<>(Map.of(
            "1 a package", "\\bpackage\\b",
            "2 a lambda", "(?m)^(?!\\s*(?:case\\b|default\\b)).*->",
            "2 a method reference", "::",
            "4 another import", "\\bimport\\s+(?!java\\.util\\."
                    + "(?:Arrays|ArrayList|List|Iterator|NoSuchElementException);)",
            "4 exact arithmetic", "\\w+Exact\\s*\\(",
            "5 a static block", "\\bstatic\\s*\\{",
            "6 another exception", "\\bnew\\s+(?!(?:IllegalState|IllegalArgument|IndexOutOfBounds"
                    + "|Arithmetic|UnsupportedOperation|NoSuchElement|Runtime)Exception\\b)"
                    + "\\w*(?:Exception|Error)\\b",
            "6 a word that is not allowed", "\\b(?:finally|synchronized|assert|volatile)\\b",
            "6 the machine's own exceptions", "\\b(?:ArrayIndexOutOfBounds|NullPointer|ClassCast"
                    + "|NegativeArraySize|ArrayStore)Exception\\b|\\bThrowable\\b",
            "13 a clock, a random source, a thread", "\\bSystem\\.(?!arraycopy\\b)"
                    + "|\\bMath\\.random\\b|\\b(?:Random|Thread|Runtime)\\b"));

    public static void main(String[] args) throws IOException {
        methodsAreThoseOfTheDocument();
        nothingElseIsVisible();
        constantsAreThoseOfTheDocument();
        noPrivateMethodHasAPublicName();
        staticFieldsAreConstants();
        sizesAreKept();
        nothingForbiddenIsWritten();
        CHECKS.end();
    }

    private static List<Class<?>> classes() {
        List<Class<?>> classes = new ArrayList<>(
                Arrays.asList(LayeredImages.class.getDeclaredClasses()));
        classes.add(LayeredImages.class);
        return classes;
    }

    private static void methodsAreThoseOfTheDocument() throws IOException {
        List<String> due = new ArrayList<>();
        Matcher line = Pattern.compile("    public int (\\w+)\\((.*?)\\)(?: throws (.*?))?;")
                .matcher(Files.readString(DOCUMENT));
        while (line.find()) {
            int count = line.group(2).isEmpty() ? 0 : line.group(2).split(",").length;
            String thrown = line.group(3) == null ? "" : line.group(3).replace(" ", "");
            due.add("public int " + line.group(1) + "/" + count + " " + thrown);
        }
        List<String> got = new ArrayList<>();
        for (Method method : LayeredImages.class.getDeclaredMethods()) {
            if (!Modifier.isPrivate(method.getModifiers()) && !method.isSynthetic()) {
                got.add(Modifier.toString(method.getModifiers()) + " " + method.getReturnType()
                        + " " + method.getName() + "/" + method.getParameterCount() + " "
                        + thrownBy(method));
            }
        }
        Collections.sort(due);
        Collections.sort(got);
        CHECKS.same("methods of the document", 33, due.size());
        CHECKS.holds("the methods are " + got + ", due are " + due, due.equals(got));
    }

    private static String thrownBy(Method method) {
        List<String> names = new ArrayList<>();
        for (Class<?> thrown : method.getExceptionTypes()) {
            names.add(thrown.getSimpleName());
        }
        return String.join(",", names);
    }

    private static void nothingElseIsVisible() {
        int itself = LayeredImages.class.getModifiers();
        CHECKS.holds("the class is public", Modifier.isPublic(itself));
        CHECKS.holds("the class is final", Modifier.isFinal(itself));
        Constructor<?>[] constructors = LayeredImages.class.getDeclaredConstructors();
        CHECKS.same("constructors", 1, constructors.length);
        CHECKS.holds("it is public", Modifier.isPublic(constructors[0].getModifiers()));
        CHECKS.same("its parameters", 0, constructors[0].getParameterCount());
        for (Field field : LayeredImages.class.getDeclaredFields()) {
            boolean constant = List.of("NONE", "WHITEOUT").contains(field.getName());
            CHECKS.holds(field + " is as visible as due",
                    constant ? Modifier.isPublic(field.getModifiers())
                            : Modifier.isPrivate(field.getModifiers()));
        }
        for (Class<?> inside : LayeredImages.class.getDeclaredClasses()) {
            int modifiers = inside.getModifiers();
            CHECKS.holds(inside + " is private or package-visible",
                    !Modifier.isPublic(modifiers) && !Modifier.isProtected(modifiers));
        }
    }

    private static void constantsAreThoseOfTheDocument() throws IOException {
        Matcher line = Pattern.compile("    public static final int (\\w+) = (-?\\d+);")
                .matcher(Files.readString(DOCUMENT));
        int constants = 0;
        while (line.find()) {
            constants++;
            CHECKS.same(line.group(1), Integer.parseInt(line.group(2)), valueOf(line.group(1)));
        }
        CHECKS.same("constants of the document", 2, constants);
    }

    private static int valueOf(String constant) {
        try {
            Field field = LayeredImages.class.getField(constant);
            int modifiers = field.getModifiers();
            CHECKS.holds(constant + " is static and final",
                    Modifier.isStatic(modifiers) && Modifier.isFinal(modifiers));
            return field.getInt(null);
        } catch (ReflectiveOperationException e) {
            CHECKS.holds(constant + " cannot be read: " + e, false);
            return 0;
        }
    }

    private static void noPrivateMethodHasAPublicName() {
        List<String> names = new ArrayList<>();
        for (Method method : LayeredImages.class.getMethods()) {
            names.add(method.getName());
        }
        for (Class<?> owner : classes()) {
            for (Method method : owner.getDeclaredMethods()) {
                CHECKS.holds(method + " has a name of its own",
                        !Modifier.isPrivate(method.getModifiers()) || method.isSynthetic()
                                || !names.contains(method.getName()));
            }
        }
    }

    private static void staticFieldsAreConstants() {
        for (Class<?> owner : classes()) {
            for (Field field : owner.getDeclaredFields()) {
                boolean free = !Modifier.isStatic(field.getModifiers()) || field.isSynthetic();
                boolean listed = CONSTANT_TYPES.contains(field.getType())
                        || field.getType().isEnum()
                        || field.getType().isArray() && field.getType().getComponentType().isEnum();
                CHECKS.holds(field + " is no changing static field",
                        free || Modifier.isFinal(field.getModifiers()) && listed);
            }
        }
    }

    private static void sizesAreKept() {
        CHECKS.holds("some twelve classes", classes().size() <= 12);
        for (Class<?> owner : classes()) {
            int fields = 0;
            for (Field field : owner.getDeclaredFields()) {
                fields += Modifier.isStatic(field.getModifiers()) ? 0 : 1;
            }
            CHECKS.holds("some twenty fields in " + owner, fields <= 20);
            for (Method method : owner.getDeclaredMethods()) {
                CHECKS.holds("at most seven parameters in " + method,
                        method.getParameterCount() <= 7);
            }
        }
    }

    private static void nothingForbiddenIsWritten() throws IOException {
        String text = Files.readString(PROGRAM);
        CHECKS.holds("a sign above 127", text.chars().allMatch(sign -> sign < 128));
        String code = withoutTextsAndComments(text);
        CHECKS.holds("the program is read", code.contains("public final class LayeredImages {"));
        for (Map.Entry<String, String> rule : FORBIDDEN.entrySet()) {
            Matcher found = Pattern.compile(rule.getValue()).matcher(code);
            CHECKS.holds("rule " + rule.getKey() + " stands in the program", !found.find());
        }
    }

    private static String withoutTextsAndComments(String text) {
        return text.replaceAll("\"(?:[^\"\\\\\\n]|\\\\.)*\"", "\"\"")
                .replaceAll("'(?:[^'\\\\\\n]|\\\\.)+'", "' '")
                .replaceAll("//[^\\n]*", "")
                .replaceAll("(?s)/\\*.*?\\*/", "");
    }
}
