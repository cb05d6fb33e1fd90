import java.io.IOException;
import java.lang.reflect.Constructor;
import java.lang.reflect.Field;
import java.lang.reflect.Method;
import java.lang.reflect.Modifier;
import java.nio.file.Files;
import java.nio.file.Path;
import java.util.ArrayList;
import java.util.Arrays;
import java.util.Collections;
import java.util.List;
import java.util.regex.Matcher;
import java.util.regex.Pattern;

/** The public face as the document tells it, and what of LANGUAGE.md can be read off the file. */
final class FaceTest {
    private static final Checks CHECKS = new Checks("FaceTest");
    private static final Path DOCUMENT = Path.of("../shared/DOC.md");
    private static final Path PROGRAM = Path.of("src/main/java/LayeredImages.java");
    private static final String[] FORBIDDEN = {
        "->", "::", "finally", "synchronized", "assert ", "catch", "static {", "package ",
        "Exact", "System.", "Random", "Thread", "import java.util.Arrays;\nimport", "volatile"};

    public static void main(String[] args) throws IOException {
        methodsAreThoseOfTheDocument();
        nothingElseIsVisible();
        noPrivateMethodHasAPublicName();
        staticFieldsAreConstants();
        nothingForbiddenIsWritten();
        CHECKS.end();
    }

    private static void methodsAreThoseOfTheDocument() throws IOException {
        List<String> due = new ArrayList<>();
        Matcher line = Pattern.compile("    public int (\\w+)\\((.*?)\\)(?: throws (.*?))?;")
                .matcher(Files.readString(DOCUMENT));
        while (line.find()) {
            int count = line.group(2).isEmpty() ? 0 : line.group(2).split(",").length;
            String thrown = line.group(3) == null ? "" : line.group(3).replace(" ", "");
            due.add("public int " + line.group(1) + "/" + count + " " + thrown);
        }
        List<String> got = new ArrayList<>();
        for (Method method : LayeredImages.class.getDeclaredMethods()) {
            if (!Modifier.isPrivate(method.getModifiers())) {
                got.add(Modifier.toString(method.getModifiers()) + " " + method.getReturnType()
                        + " " + method.getName() + "/" + method.getParameterCount() + " "
                        + thrownBy(method));
            }
        }
        Collections.sort(due);
        Collections.sort(got);
        CHECKS.same("methods of the document", 33, due.size());
        CHECKS.holds("the methods are " + got + ", due are " + due, due.equals(got));
    }

    private static String thrownBy(Method method) {
        List<String> names = new ArrayList<>();
        for (Class<?> thrown : method.getExceptionTypes()) {
            names.add(thrown.getSimpleName());
        }
        return String.join(",", names);
    }

    private static void nothingElseIsVisible() {
        int itself = LayeredImages.class.getModifiers();
        CHECKS.holds("the class is public", Modifier.isPublic(itself));
        CHECKS.holds("the class is final", Modifier.isFinal(itself));
        Constructor<?>[] constructors = LayeredImages.class.getDeclaredConstructors();
        CHECKS.same("constructors", 1, constructors.length);
        CHECKS.holds("it is public", Modifier.isPublic(constructors[0].getModifiers()));
        CHECKS.same("its parameters", 0, constructors[0].getParameterCount());
        for (Field field : LayeredImages.class.getDeclaredFields()) {
            boolean constant = List.of("NONE", "WHITEOUT").contains(field.getName());
            CHECKS.holds(field + " is as visible as due",
                    constant ? Modifier.isPublic(field.getModifiers())
                            : Modifier.isPrivate(field.getModifiers()));
        }
        for (Class<?> inside : LayeredImages.class.getDeclaredClasses()) {
            int modifiers = inside.getModifiers();
            CHECKS.holds(inside + " is private and static",
                    Modifier.isPrivate(modifiers) && Modifier.isStatic(modifiers));
        }
        CHECKS.holds("some twelve classes",
                LayeredImages.class.getDeclaredClasses().length <= 11);
    }

    private static void noPrivateMethodHasAPublicName() {
        List<String> names = new ArrayList<>();
        for (Method method : LayeredImages.class.getMethods()) {
            names.add(method.getName());
        }
        List<Class<?>> classes = new ArrayList<>(
                Arrays.asList(LayeredImages.class.getDeclaredClasses()));
        classes.add(LayeredImages.class);
        for (Class<?> inside : classes) {
            for (Method method : inside.getDeclaredMethods()) {
                CHECKS.holds(method + " has a name of its own",
                        Modifier.isPublic(method.getModifiers())
                                || !names.contains(method.getName()));
            }
        }
    }

    private static void staticFieldsAreConstants() {
        List<Class<?>> classes = new ArrayList<>(
                Arrays.asList(LayeredImages.class.getDeclaredClasses()));
        classes.add(LayeredImages.class);
        for (Class<?> inside : classes) {
            for (Field field : inside.getDeclaredFields()) {
                boolean free = !Modifier.isStatic(field.getModifiers());
                CHECKS.holds(field + " is no changing static field", free
                        || Modifier.isFinal(field.getModifiers()) && field.getType() == int.class);
            }
        }
    }

    private static void nothingForbiddenIsWritten() throws IOException {
        String text = Files.readString(PROGRAM);
        for (String word : FORBIDDEN) {
            CHECKS.holds("'" + word + "' stands in the program", !text.contains(word));
        }
        CHECKS.holds("a sign above 127", text.chars().allMatch(sign -> sign < 128));
    }
}
