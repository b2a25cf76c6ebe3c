import java.lang.reflect.InvocationTargetException;
import java.lang.reflect.Method;
import java.lang.reflect.Modifier;
import java.util.Arrays;
import java.util.Comparator;
import java.util.List;
import java.util.Random;

/**
 * "No call may ever throw by itself": every method with any arguments in many states, up to the last of the
 * 512 calls that an object is made for. The seeds are fixed.
 */
public final class AnyCallTest {
    private static final int OBJECTS = 400;
    private static final int CALLS = 512;
    private static final int[] EDGES = {Integer.MIN_VALUE, Integer.MIN_VALUE + 1, -16, -4, -3, -2, -1, 3, 4, 5, 6, 7,
        8, 9, 10, 11, 12, 15, 16, 17, 23, 24, 25, 31, 32, 33, 880, 899, 900, 901, 1 << 23, (1 << 24) - 1, 1 << 24,
        1 << 30, Integer.MAX_VALUE - 1, Integer.MAX_VALUE};
    private static final String[] SIEGES = {
        "",
        "wind;",
        "balloon 9 4;letter 1 1;",
        "region 0 1 10;wind 0 10;balloon 999 4;balloon 999 4;balloon 999 4;letter 1 1;letter 2 9;loft 40;",
        "region 3 2 7;region 1 9 9;wind 1 4 0 5;wind 0 8;turn 0 1 7;turn 1 0 6;balloon 50 2;balloon 60 1;letter 5 5;",
        "region 0 1 10;".repeat(8) + "wind 0 1 7 9;".repeat(6) + "turn 0 5 5;turn 5 0 5;start 5;"
            + "balloon 999 4;".repeat(10) + "letter 9 9;".repeat(24) + "loft 40;seed 9999;",
    };
    private static final List<Method> METHODS = Arrays.stream(BalloonMail.class.getDeclaredMethods())
            .filter(method -> Modifier.isPublic(method.getModifiers()))
            .sorted(Comparator.comparing(Method::getName))
            .toList();

    private final Check check;
    private final Random random;
    private final BalloonMail mail = new BalloonMail();
    private int calls;

    private AnyCallTest(Check check, int seed) {
        this.check = check;
        this.random = new Random(seed);
    }

    public static void main(String[] args) throws IllegalAccessException {
        Check check = new Check("AnyCallTest");
        for (String siege : SIEGES) {
            check.good(siege);
        }
        for (int seed = 0; seed < OBJECTS; seed++) {
            new AnyCallTest(check, seed).play();
        }
        checkLastDay(check);
        checkLastChange(check);
        check.finish();
    }

    private void play() throws IllegalAccessException {
        while (calls < CALLS) {
            if (calls == 0 || random.nextInt(200) == 0) {
                handIn(SIEGES[random.nextInt(SIEGES.length)]);
            } else if (random.nextInt(4) == 0) {
                mail.nextDay();
                mail.launch(random.nextInt(10), mail.bestLoad(random.nextInt(10)));
                calls += 3;
            } else {
                call(METHODS.get(random.nextInt(METHODS.size())));
            }
        }
    }

    private void handIn(String text) {
        Check.append(mail, text);
        mail.parse(text.length());
        calls += Check.words(text).length + 1;
    }

    private void call(Method method) throws IllegalAccessException {
        Object[] arguments = new Object[method.getParameterCount()];
        Arrays.setAll(arguments, k -> argument());
        boolean throwing = method.getExceptionTypes().length > 0;
        String due = throwing && !isEvent((int) arguments[0]) ? "IndexOutOfBoundsException" : "no exception";
        calls += throwing ? 2 : 1;
        String thrown = "no exception";
        try {
            method.invoke(mail, arguments);
        } catch (InvocationTargetException e) {
            thrown = e.getCause().getClass().getSimpleName();
        }
        check.dueText("exception of " + method.getName() + Arrays.toString(arguments), thrown, due);
    }

    private boolean isEvent(int index) {
        return index >= 0 && index < mail.eventCount();
    }

    private int argument() {
        return switch (random.nextInt(4)) {
            case 0 -> EDGES[random.nextInt(EDGES.length)];
            case 1 -> random.nextInt();
            default -> random.nextInt(3);
        };
    }

    /** The last call that is promised anything is the 512th. */
    private static void checkLastDay(Check check) {
        BalloonMail mail = new BalloonMail();
        for (int k = 1; k < CALLS; k++) {
            mail.nextDay();
        }
        check.due("day() as the 512th call", mail.day(), CALLS - 1);
    }

    private static void checkLastChange(Check check) {
        BalloonMail mail = new BalloonMail();
        for (int k = 1; k < CALLS - 13; k++) {
            mail.nextDay();
        }
        for (int k = 0; k < 12; k++) {
            check.due("undo() of one of the latest 12 days", mail.undo(), true);
        }
        check.due("undo() as the 511th call", mail.undo(), false);
        check.due("day() as the 512th call", mail.day(), CALLS - 14 - 12);
    }
}
