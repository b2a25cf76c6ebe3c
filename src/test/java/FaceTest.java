import java.lang.reflect.Constructor;
import java.lang.reflect.Field;
import java.lang.reflect.Method;
import java.lang.reflect.Modifier;
import java.util.Arrays;
import java.util.Set;
import java.util.TreeSet;

/** The public face is the document's, and no member beside it can be seen from outside. */
public final class FaceTest {
    private static final String[] FACE = {
        "int append(int,int,int,int,int)", "int parse(int)", "int errorPosition()",
        "int regionCount()", "int windCount()", "int balloonCount()", "int letterCount()",
        "int capacity(int)", "int letterWeight(int)", "long windChance(int,int)",
        "long avoidChance(int,int)", "long landingChance(int,int)", "long deliveryChance(int)",
        "long answerChance(int,int)", "int answerPermille(int,int)", "int bestDay(int)",
        "long assignmentTotal()", "int assignedDay(int)", "int bestLoad(int)", "int weightOf(int)",
        "int priorityOf(int)", "int lettersIn(int)", "int day()", "int wind()",
        "int launch(int,int)", "int nextDay()", "int balloonState(int)", "int balloonRegion(int)",
        "int cargo(int)", "int letterState(int)", "int answerDay(int)", "int pigeonsInLoft()",
        "int pigeonsOnTheWay()", "int pigeonsLost()", "int nextReturn()", "int weightIn(int)",
        "int answeredPriority()", "int balloonsIn(int)", "int eventCount()", "int eventKind(int)",
        "int eventNumber(int)", "int eventDay(int)", "boolean undo()", "int undoDepth()",
        "boolean saveSnapshot(int)", "boolean restoreSnapshot(int)",
    };
    private static final Set<String> CONSTANTS = Set.of("INVALID", "NONE", "TOO_HEAVY", "NO_PIGEONS");

    public static void main(String[] args) {
        Check check = new Check("FaceTest");
        Class<?> type = BalloonMail.class;
        check.due("public and final", type.getModifiers(), Modifier.PUBLIC | Modifier.FINAL);
        checkMethods(check, type);
        checkFields(check, type);
        checkNestedClasses(check, type);
        Constructor<?>[] constructors = type.getDeclaredConstructors();
        check.due("constructors", constructors.length, 1);
        check.due("public constructor", constructors[0].getModifiers(), Modifier.PUBLIC);
        check.due("its parameters", constructors[0].getParameterCount(), 0);
        check.due("INVALID", BalloonMail.INVALID, -1);
        check.due("NONE", BalloonMail.NONE, -2);
        check.due("TOO_HEAVY", BalloonMail.TOO_HEAVY, -3);
        check.due("NO_PIGEONS", BalloonMail.NO_PIGEONS, -4);
        check.finish();
    }

    private static void checkMethods(Check check, Class<?> type) {
        Set<String> seen = new TreeSet<>();
        Set<String> publicNames = new TreeSet<>();
        Set<String> privateNames = new TreeSet<>();
        for (Method method : type.getDeclaredMethods()) {
            if (Modifier.isPrivate(method.getModifiers())) {
                privateNames.add(method.getName());
            } else {
                seen.add(signature(method));
                publicNames.add(method.getName());
                check.due(method + " is public alone", method.getModifiers(), Modifier.PUBLIC);
            }
        }
        for (Class<?> inside : type.getDeclaredClasses()) {
            for (Method method : inside.getDeclaredMethods()) {
                privateNames.add(method.getName());
            }
        }
        Set<String> due = new TreeSet<>(Arrays.asList(FACE));
        check.due("methods " + seen + " are the face " + due, seen.equals(due), true);
        privateNames.retainAll(publicNames);
        check.due("hidden methods with names of the face " + privateNames, privateNames.size(), 0);
    }

    private static String signature(Method method) {
        StringBuilder text = new StringBuilder();
        text.append(method.getReturnType()).append(' ').append(method.getName()).append('(');
        for (Class<?> parameter : method.getParameterTypes()) {
            text.append(text.charAt(text.length() - 1) == '(' ? "" : ",").append(parameter);
        }
        return text.append(')').toString();
    }

    private static void checkFields(Check check, Class<?> type) {
        for (Field field : type.getDeclaredFields()) {
            if (CONSTANTS.contains(field.getName())) {
                int modifiers = Modifier.PUBLIC | Modifier.STATIC | Modifier.FINAL;
                check.due(field + " is a constant", field.getModifiers(), modifiers);
            } else {
                check.due(field + " is private", Modifier.isPrivate(field.getModifiers()), true);
            }
        }
    }

    private static void checkNestedClasses(Check check, Class<?> type) {
        for (Class<?> inside : type.getDeclaredClasses()) {
            int modifiers = inside.getModifiers();
            check.due(inside + " is static", Modifier.isStatic(modifiers), true);
            check.due(inside + " is not public", Modifier.isPublic(modifiers), false);
            for (Field field : inside.getDeclaredFields()) {
                boolean changing = Modifier.isStatic(field.getModifiers())
                        && !Modifier.isFinal(field.getModifiers());
                check.due(field + " is static state", changing, false);
            }
        }
    }
}
