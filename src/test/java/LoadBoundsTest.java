import java.util.function.IntToLongFunction;
import java.util.function.ToIntBiFunction;

/** The boundaries of promises 20 to 23: the best load and sets of letters. */
public final class LoadBoundsTest {
    private static final int ALL_LETTERS = 0xffffff;
    private static final String GOOD = "region 0 2 10;wind 0 10;";

    public static void main(String[] args) throws ReflectiveOperationException {
        Bounds.run(LoadBoundsTest.class);
    }

    private static int best(String text) {
        return Check.siege(text).bestLoad(0);
    }

    @Says(in = "LOADING",
            value = "A load is a set of waiting letters whose total weight is at most the capacity of a balloon.")
    static void weightAndCapacity(Check check) {
        check.due("one letter of just the capacity", best("balloon 9 0;letter 9 1;"), 1);
        check.due("one letter of one more", best("balloon 9 0;letter 10 9;"), 0);
        check.due("the least of both", best("balloon 1 0;letter 1 1;"), 1);
        check.due("two letters of just the capacity", best("balloon 9 0;letter 4 1;letter 5 1;"), 3);
        check.due("two letters of one more", best("balloon 8 0;letter 4 1;letter 5 1;"), 1);
        String heavy = "balloon 999 0;" + "letter 99 9;".repeat(10);
        check.due("the greatest capacity, just filled", best(heavy + "letter 9 1;"), 2047);
        check.due("the greatest capacity, one more", best(heavy + "letter 10 1;"), 1023);
        check.due("all 24 letters", best("balloon 999 0;" + "letter 41 9;".repeat(24)), ALL_LETTERS);
        check.due("23 of 24 letters", best("balloon 999 0;" + "letter 41 1;".repeat(23) + "letter 57 1;"), 0x7fffff);
        BalloonMail mail = Check.siege(GOOD + "balloon 9 1;balloon 9 1;letter 9 9;letter 9 1;");
        mail.launch(0, 1);
        check.due("delivered letters do not wait", mail.bestLoad(1), 2);
        mail.nextDay();
        mail.nextDay();
        check.due("answered letters do not wait", mail.bestLoad(1), 2);
        BalloonMail sea = Check.siege("wind;balloon 9 1;balloon 9 1;letter 9 9;letter 9 1;");
        sea.launch(0, 1);
        check.due("lost letters do not wait", sea.bestLoad(1), 2);
        sea.undo();
        check.due("a launch undone lets them wait", sea.bestLoad(1), 1);
    }

    @Says(in = "LOADING", value = "The best load has the greatest total priority; among several, "
            + "the one with the least total weight; then the one with the lowest bit set.")
    static void orderOfLoads(Check check) {
        check.due("priority before weight", best("balloon 99 0;letter 1 1;letter 99 2;"), 2);
        check.due("priority before weight and bits", best("balloon 99 0;letter 99 8;letter 50 4;letter 49 5;"), 6);
        check.due("weight before bits", best("balloon 99 0;letter 99 9;letter 98 9;"), 2);
        check.due("two light ones before one", best("balloon 9 0;letter 9 9;letter 4 4;letter 4 5;"), 6);
        check.due("the lowest bits of equal letters", best("balloon 3 0;letter 2 2;letter 2 2;"), 1);
        check.due("5 before 6", best("balloon 5 0;letter 2 2;letter 2 2;letter 3 3;"), 5);
        check.due("6 before 9", best("balloon 5 0;letter 1 1;letter 2 2;letter 3 3;letter 4 4;"), 6);
        check.due("7 before 8", best("balloon 6 0;letter 1 1;letter 2 2;letter 3 3;letter 6 6;"), 7);
        check.due("the lowest half of 24 letters", best("balloon 12 0;" + "letter 1 1;".repeat(24)), 0xfff);
        check.due("the highest bits if they are lighter",
                best("balloon 24 0;" + "letter 3 9;".repeat(12) + "letter 2 9;".repeat(12)), 0xfff000);
        check.due("letter 23 alone", best("balloon 9 0;" + "letter 9 8;".repeat(23) + "letter 9 9;"), 1 << 23);
    }

    @Says(in = "Promise 20", value = {"Returns the best load of a balloon.",
        "Returns the set of letters, possibly empty; NONE if the balloon is not ready; "
            + "INVALID if there is no such balloon."})
    static void bestLoads(Check check) {
        BalloonMail ten = Check.siege("balloon 9 0;".repeat(9) + "balloon 1 0;letter 9 9;letter 1 1;");
        Bounds.within(check, "bestLoad", 0, 9, ten::bestLoad);
        check.due("bestLoad(8)", ten.bestLoad(8), 1);
        check.due("bestLoad(9)", ten.bestLoad(9), 2);
        check.due("bestLoad(-2)", ten.bestLoad(-2), -1);
        check.due("bestLoad without letters", best("balloon 999 0;"), 0);
        check.due("bestLoad of letters that are all too heavy", best("balloon 1 0;letter 2 9;letter 99 9;"), 0);
        Bounds.never(check, "bestLoad without balloons", Check.siege("letter 1 1;wind;")::bestLoad);
        BalloonMail mail = Check.siege("region 10 1 1;region 0 1 1;wind;wind 0 10;wind 1 10;turn 0 1 10;turn 1 2 10;"
                + "balloon 9 0;".repeat(4) + "letter 1 1;");
        for (int balloon = 0; balloon < 3; balloon++) {
            check.due("bestLoad of a ready balloon", mail.bestLoad(balloon), 1);
            check.due("launch", mail.launch(balloon, 0), balloon + 1);
            check.due("bestLoad of a balloon in state " + (balloon + 1), mail.bestLoad(balloon), -2);
            mail.nextDay();
        }
        mail.launch(3, 1);
        mail.undo();
        check.due("bestLoad after undo", mail.bestLoad(3), 1);
    }

    /** A set is accepted up to the highest letter; each bit above it, the sign too, is a letter that does not exist. */
    private static void sets(Check check, String name, int letters, IntToLongFunction call) {
        for (int bit = 0; bit < 32; bit++) {
            long answer = call.applyAsLong(1 << bit);
            check.due(name + " of letter " + bit + " of " + letters, answer == -1, bit >= letters);
            answer = call.applyAsLong(1 << bit | 1);
            check.due(name + " of letters 0 and " + bit + " of " + letters, answer == -1, bit >= letters);
        }
        check.due(name + " of all letters", call.applyAsLong((1 << letters) - 1) >= 0, true);
        check.due(name + " of all bits", call.applyAsLong(-1), -1);
        check.due(name + " of all bits but the sign", call.applyAsLong(Integer.MAX_VALUE), -1);
    }

    @Says(in = "JOURNAL", value = "Sets of letters are given as bit sets: bit k stands for letter k.")
    static void bits(Check check) {
        StringBuilder text = new StringBuilder();
        for (int letter = 0; letter < 24; letter++) {
            text.append("letter ").append(letter + 1).append(' ').append(letter % 9 + 1).append(';');
        }
        BalloonMail mail = Check.siege(text.toString());
        for (int letter = 0; letter < 24; letter++) {
            check.due("weightOf(letter " + letter + ")", mail.weightOf(1 << letter), letter + 1);
            check.due("priorityOf(letter " + letter + ")", mail.priorityOf(1 << letter), letter % 9 + 1);
        }
        check.due("lettersIn(0)", mail.lettersIn(0), ALL_LETTERS);
    }

    /** The statement is one of a letter for which the total is the greatest. */
    private static void totals(Check check, String name, String statement, int greatest,
            ToIntBiFunction<BalloonMail, Integer> total) {
        int[] numbers = {1, 7, 24};
        for (int letters : numbers) {
            BalloonMail mail = Check.siege(statement.repeat(letters));
            sets(check, name, letters, set -> total.applyAsInt(mail, set));
            check.due(name + " of the empty set", total.applyAsInt(mail, 0), 0);
            check.due(name + " of all " + letters, total.applyAsInt(mail, (1 << letters) - 1), letters * greatest);
        }
        BalloonMail none = new BalloonMail();
        check.due(name + " of the empty set in the empty siege", total.applyAsInt(none, 0), 0);
        for (int bit = 0; bit < 32; bit++) {
            check.due(name + " of letter " + bit + " in the empty siege", total.applyAsInt(none, 1 << bit), -1);
        }
    }

    @Says(in = "Promise 21", value = {"Returns the total weight of a set of letters.",
        "Returns the weight; INVALID if the set contains a letter that does not exist."})
    static void weights(Check check) {
        totals(check, "weightOf", "letter 99 1;", 99, BalloonMail::weightOf);
    }

    @Says(in = "Promise 22", value = {"Returns the total priority of a set of letters.",
        "Returns the priority; INVALID if the set contains a letter that does not exist."})
    static void priorities(Check check) {
        totals(check, "priorityOf", "letter 1 9;", 9, BalloonMail::priorityOf);
    }

    @Says(in = "Promise 23", value = {"Returns the letters in a given state.", "- `state`: 0 to 3"})
    static void lettersInStates(Check check) {
        BalloonMail mail = Check.siege(GOOD + "balloon 999 4;" + "letter 1 1;".repeat(24));
        dueStates(check, mail, ALL_LETTERS, 0, 0, 0);
        mail.launch(0, ALL_LETTERS);
        dueStates(check, mail, 0, 0, ALL_LETTERS, 0);
        mail.nextDay();
        mail.nextDay();
        dueStates(check, mail, 0, 0, 0, ALL_LETTERS);
        BalloonMail sea = Check.siege("wind;balloon 999 4;" + "letter 1 1;".repeat(24));
        sea.launch(0, ALL_LETTERS);
        dueStates(check, sea, 0, ALL_LETTERS, 0, 0);
    }

    @Says(in = "Promise 23", value = "Returns the set; INVALID if state is out of range.")
    static void noSuchState(Check check) {
        Bounds.within(check, "lettersIn of the empty siege", 0, 3, new BalloonMail()::lettersIn);
        BalloonMail mail = Check.siege("letter 1 1;".repeat(24));
        Bounds.within(check, "lettersIn", 0, 3, mail::lettersIn);
        check.due("lettersIn(-2)", mail.lettersIn(-2), -1);
        check.due("lettersIn(5)", mail.lettersIn(5), -1);
    }

    private static void dueStates(Check check, BalloonMail mail, int... sets) {
        for (int state = 0; state <= 3; state++) {
            check.due("lettersIn(" + state + ")", mail.lettersIn(state), sets[state]);
        }
    }
}
