import java.lang.reflect.InvocationTargetException;
import java.lang.reflect.Method;
import java.math.BigInteger;
import java.util.Arrays;
import java.util.Comparator;
import java.util.List;
import java.util.function.IntToLongFunction;

/** What the tests of boundaries share. */
final class Bounds {
    private static final BigInteger FACTOR = BigInteger.valueOf(1103515245);
    private static final BigInteger ADDED = BigInteger.valueOf(12345);
    private static final BigInteger MODULUS = BigInteger.valueOf(2147483648L);

    private Bounds() {
    }

    /** The tests of a class: each has a sentence, and none is forgotten. */
    static List<Method> tests(Class<?> type) {
        return Arrays.stream(type.getDeclaredMethods())
                .filter(method -> method.isAnnotationPresent(Says.class))
                .sorted(Comparator.comparing(Method::getName))
                .toList();
    }

    static void run(Class<?> type) throws IllegalAccessException, InvocationTargetException {
        Check check = new Check(type.getName());
        for (Method test : tests(type)) {
            test.invoke(null, check);
        }
        check.finish();
    }

    /** The first and the last argument are accepted; those next to them and the farthest ones are INVALID. */
    static void within(Check check, String name, int first, int last, IntToLongFunction call) {
        check.due(name + "(" + first + ") is not INVALID", call.applyAsLong(first) != BalloonMail.INVALID, true);
        check.due(name + "(" + last + ") is not INVALID", call.applyAsLong(last) != BalloonMail.INVALID, true);
        int[] beyond = {first - 1, last + 1, Integer.MIN_VALUE, Integer.MAX_VALUE};
        for (int argument : beyond) {
            check.due(name + "(" + argument + ")", call.applyAsLong(argument), BalloonMail.INVALID);
        }
    }

    /** No argument at all is accepted. */
    static void never(Check check, String name, IntToLongFunction call) {
        int[] arguments = {Integer.MIN_VALUE, -3, -2, -1, 0, 1, 8, 9, Integer.MAX_VALUE};
        for (int argument : arguments) {
            check.due(name + "(" + argument + ")", call.applyAsLong(argument), BalloonMail.INVALID);
        }
    }

    static long power(int base, int exponent) {
        return BigInteger.valueOf(base).pow(exponent).longValueExact();
    }

    /** The first draws from a seed, with numbers that cannot overflow. */
    static int[] draws(int seed, int number) {
        int[] draws = new int[number];
        BigInteger x = BigInteger.valueOf(seed);
        for (int k = 0; k < number; k++) {
            x = x.multiply(FACTOR).add(ADDED).mod(MODULUS);
            draws[k] = x.divide(BigInteger.valueOf(65536)).mod(BigInteger.TEN).intValue();
        }
        return draws;
    }

    /** The statement of the first seed from which the draws begin with these. */
    static String seed(int... draws) {
        for (int seed = 0; seed <= 9999; seed++) {
            if (Arrays.equals(draws(seed, draws.length), draws)) {
                return "seed " + seed + ";";
            }
        }
        throw new IllegalStateException("no seed draws " + Arrays.toString(draws));
    }
}
