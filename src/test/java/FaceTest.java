import java.io.IOException;
import java.lang.reflect.Constructor;
import java.lang.reflect.Field;
import java.lang.reflect.Method;
import java.lang.reflect.Modifier;
import java.nio.file.Files;
import java.nio.file.Path;
import java.util.Arrays;
import java.util.List;
import java.util.Set;
import java.util.TreeSet;
import java.util.regex.Matcher;
import java.util.regex.Pattern;
import java.util.stream.Collectors;

/** The public face is the document's, and no member beside it can be seen from outside. */
public final class FaceTest {
    private static final Path DOCUMENT = Path.of("../shared/DOC.md");
    private static final Pattern FACE = Pattern.compile("(?s)## The public face\\s+```java\n(.*?)```");
    private static final int METHODS = 46;
    private static final Set<String> CONSTANTS = Set.of("INVALID", "NONE", "TOO_HEAVY", "NO_PIGEONS");

    public static void main(String[] args) throws IOException {
        Check check = new Check("FaceTest");
        Class<?> type = BalloonMail.class;
        check.due("public and final", type.getModifiers(), Modifier.PUBLIC | Modifier.FINAL);
        List<String> face = face();
        checkSignatures(check, type, face);
        checkNames(check, type);
        checkFields(check, type);
        checkNestedClasses(check, type);
        Constructor<?>[] constructors = type.getDeclaredConstructors();
        check.due("constructors", constructors.length, 1);
        check.due("public constructor", constructors[0].getModifiers(), Modifier.PUBLIC);
        check.due("its parameters", constructors[0].getParameterCount(), 0);
        check.due("INVALID", BalloonMail.INVALID, -1);
        check.due("NONE", BalloonMail.NONE, -2);
        check.due("TOO_HEAVY", BalloonMail.TOO_HEAVY, -3);
        check.due("NO_PIGEONS", BalloonMail.NO_PIGEONS, -4);
        check.finish();
    }

    /** The rows of the document's face, without the names of parameters and without the braces. */
    private static List<String> face() throws IOException {
        Matcher matcher = FACE.matcher(Files.readString(DOCUMENT));
        if (!matcher.find()) {
            throw new IllegalStateException("the document has no face");
        }
        return matcher.group(1).lines()
                .map(row -> row.strip().replaceAll("int \\w+(?=[,)])", "int"))
                .filter(row -> row.endsWith(";"))
                .toList();
    }

    /** The face of the document is what can be seen of the class, to the exceptions and the values. */
    private static void checkSignatures(Check check, Class<?> type, List<String> face) {
        Set<String> seen = new TreeSet<>();
        seen.add("public BalloonMail();");
        for (String constant : CONSTANTS) {
            seen.add("public static final int " + constant + " = " + valueOf(type, constant) + ";");
        }
        for (Method method : type.getDeclaredMethods()) {
            if (!Modifier.isPrivate(method.getModifiers())) {
                seen.add(signature(method));
            }
        }
        check.due("rows of the face", face.size(), METHODS + CONSTANTS.size() + 1);
        check.dueText("the face", String.join("\n", seen), String.join("\n", new TreeSet<>(face)));
    }

    private static int valueOf(Class<?> type, String constant) {
        try {
            return type.getField(constant).getInt(null);
        } catch (ReflectiveOperationException e) {
            throw new IllegalStateException("no constant " + constant, e);
        }
    }

    private static String signature(Method method) {
        StringBuilder text = new StringBuilder();
        text.append(Modifier.toString(method.getModifiers())).append(' ');
        text.append(method.getReturnType()).append(' ').append(method.getName()).append('(');
        text.append(join(method.getParameterTypes())).append(')');
        if (method.getExceptionTypes().length > 0) {
            text.append(" throws ").append(join(method.getExceptionTypes()));
        }
        return text.append(';').toString();
    }

    private static String join(Class<?>[] types) {
        return Arrays.stream(types).map(Class::getSimpleName).collect(Collectors.joining(", "));
    }

    private static void checkNames(Check check, Class<?> type) {
        Set<String> publicNames = new TreeSet<>();
        Set<String> hiddenNames = new TreeSet<>();
        for (Method method : type.getDeclaredMethods()) {
            boolean hidden = Modifier.isPrivate(method.getModifiers());
            (hidden ? hiddenNames : publicNames).add(method.getName());
        }
        for (Class<?> inside : type.getDeclaredClasses()) {
            for (Method method : inside.getDeclaredMethods()) {
                hiddenNames.add(method.getName());
            }
        }
        hiddenNames.retainAll(publicNames);
        check.due("hidden methods with names of the face " + hiddenNames, hiddenNames.size(), 0);
    }

    private static void checkFields(Check check, Class<?> type) {
        for (Field field : type.getDeclaredFields()) {
            if (CONSTANTS.contains(field.getName())) {
                int modifiers = Modifier.PUBLIC | Modifier.STATIC | Modifier.FINAL;
                check.due(field + " is a constant", field.getModifiers(), modifiers);
            } else {
                check.due(field + " is private", Modifier.isPrivate(field.getModifiers()), true);
            }
        }
    }

    private static void checkNestedClasses(Check check, Class<?> type) {
        for (Class<?> inside : type.getDeclaredClasses()) {
            int modifiers = inside.getModifiers();
            check.due(inside + " is static", Modifier.isStatic(modifiers), true);
            check.due(inside + " is not public", Modifier.isPublic(modifiers), false);
            for (Field field : inside.getDeclaredFields()) {
                boolean changing = Modifier.isStatic(field.getModifiers())
                        && !Modifier.isFinal(field.getModifiers());
                check.due(field + " is static state", changing, false);
            }
        }
    }
}
