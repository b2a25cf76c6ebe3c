/** Promises 20 to 23: the best load, and the weights, priorities and states of sets of letters. */
public final class LoadingTest {
    private static final Check CHECK = new Check("LoadingTest");

    public static void main(String[] args) {
        bestLoads();
        ties();
        manyLetters();
        loadsOfWaitingLetters();
        totals();
        states();
        CHECK.finish();
    }

    private static void due(String call, long got, long want) {
        CHECK.due(call, got, want);
    }

    private static int best(String text) {
        return Check.siege(text).bestLoad(0);
    }

    private static void bestLoads() {
        due("best of nothing", best("balloon 5 0;"), 0);
        due("all too heavy", best("balloon 5 0;letter 6 9;letter 9 9;"), 0);
        due("just fits", best("balloon 5 0;letter 5 1;"), 1);
        due("priority before weight", best("balloon 9 0;letter 9 5;letter 1 4;"), 1);
        due("two small before one great", best("balloon 9 0;letter 9 5;letter 5 3;letter 4 3;"), 6);
        due("all fit", best("balloon 999 0;letter 99 9;letter 99 1;letter 1 1;"), 7);
        BalloonMail mail = Check.siege("wind;balloon 4 1;balloon 9 1;letter 5 9;letter 4 1;loft 1;");
        due("bestLoad(0)", mail.bestLoad(0), 2);
        due("bestLoad(1)", mail.bestLoad(1), 3);
        due("bestLoad(2)", mail.bestLoad(2), -1);
        due("bestLoad(-1)", mail.bestLoad(-1), -1);
        due("bestLoad(MAX)", mail.bestLoad(Integer.MAX_VALUE), -1);
        due("launch(1, 0)", mail.launch(1, 0), 1);
        due("bestLoad of a balloon that is not ready", mail.bestLoad(1), -2);
        due("bestLoad without pigeons in the loft", mail.bestLoad(0), 2);
    }

    /** The lowest bit set is the least number: letters 1 and 2 (6) before letters 0 and 3 (9). */
    private static void ties() {
        due("least weight", best("balloon 9 0;letter 8 5;letter 7 5;letter 9 5;"), 2);
        due("lowest bit set", best("balloon 10 0;letter 5 3;letter 5 3;letter 5 3;"), 3);
        due("6 before 9", best("balloon 5 0;letter 1 1;letter 2 2;letter 3 3;letter 4 4;"), 6);
        due("7 before 8", best("balloon 6 0;letter 1 1;letter 2 2;letter 3 3;letter 6 6;"), 7);
    }

    private static void manyLetters() {
        due("10 of 24 heavy letters", best("balloon 999 0;" + "letter 99 9;".repeat(24)), 1023);
        due("all of 24 letters", best("balloon 999 0;" + "letter 41 9;".repeat(24)), 0xffffff);
        StringBuilder text = new StringBuilder("balloon 480 0;");
        Model model = new Model();
        for (int k = 0; k < 24; k++) {
            text.append("letter ").append(31 + k * 37 % 67).append(' ').append(1 + k * 5 % 9).append(';');
        }
        for (int[] words : Check.words(text.toString())) {
            model.append(words);
        }
        due("parse of the model", model.parse(text.length()), 0);
        due("the best of all 2 to the 24 sets", best(text.toString()), model.bestLoad(0));
    }

    private static void loadsOfWaitingLetters() {
        BalloonMail mail = Check.siege("region 0 1 10;wind 0 10;balloon 5 1;balloon 5 1;letter 5 9;letter 5 2;");
        due("bestLoad(1)", mail.bestLoad(1), 1);
        due("launch(0, 1)", mail.launch(0, 1), 3);
        due("bestLoad(1) of the waiting letter", mail.bestLoad(1), 2);
        mail.nextDay();
        due("bestLoad(1) after the answer", mail.bestLoad(1), 2);
    }

    private static void totals() {
        BalloonMail mail = Check.siege("letter 4 3;letter 50 9;letter 6 1;");
        due("weightOf(0)", mail.weightOf(0), 0);
        due("weightOf(5)", mail.weightOf(5), 10);
        due("weightOf(7)", mail.weightOf(7), 60);
        due("priorityOf(0)", mail.priorityOf(0), 0);
        due("priorityOf(5)", mail.priorityOf(5), 4);
        due("priorityOf(7)", mail.priorityOf(7), 13);
        int[] wrong = {8, 9, 1 << 24, 1 << 30, Integer.MIN_VALUE, -1};
        for (int set : wrong) {
            due("weightOf(" + set + ")", mail.weightOf(set), -1);
            due("priorityOf(" + set + ")", mail.priorityOf(set), -1);
        }
        BalloonMail full = Check.siege("letter 99 9;".repeat(24));
        due("weightOf all 24", full.weightOf(0xffffff), 24 * 99);
        due("priorityOf all 24", full.priorityOf(0xffffff), 24 * 9);
        due("weightOf letter 24", full.weightOf(1 << 24), -1);
        due("weightOf of the empty siege", new BalloonMail().weightOf(1), -1);
        due("priorityOf of the empty siege", new BalloonMail().priorityOf(-1), -1);
    }

    private static void states() {
        BalloonMail mail = Check.siege("region 0 1 10;region 10 1 1;region 0 9 0;"
                + "wind 0 10;wind 1 10;wind 2 10;wind;turn 0 1 10;turn 1 2 10;turn 2 3 10;"
                + "balloon 9 1;".repeat(4) + "letter 1 1;".repeat(6));
        due("lettersIn(0)", mail.lettersIn(0), 63);
        due("launch, landed", mail.launch(0, 1), 3);
        due("lettersIn(2)", mail.lettersIn(2), 1);
        mail.nextDay();
        due("launch, captured", mail.launch(1, 2 + 4), 2);
        mail.nextDay();
        due("launch, landed, no pigeon comes back", mail.launch(2, 8), 3);
        mail.nextDay();
        due("launch, in the sea", mail.launch(3, 16), 1);
        due("lettersIn(0), waiting", mail.lettersIn(0), 32);
        due("lettersIn(1), lost", mail.lettersIn(1), 2 + 4 + 16);
        due("lettersIn(2), delivered", mail.lettersIn(2), 8);
        due("lettersIn(3), answered", mail.lettersIn(3), 1);
        int[] wrong = {-1, -2, 4, Integer.MIN_VALUE, Integer.MAX_VALUE};
        for (int state : wrong) {
            due("lettersIn(" + state + ")", mail.lettersIn(state), -1);
        }
    }
}
