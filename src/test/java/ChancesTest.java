/** Promises 11 to 19: the exact chances, the best day and the best assignment. */
public final class ChancesTest {
    private static final long WHOLE_TOTAL = 100_000_000_000_000L;
    /** Wind 0 keeps blowing with half the chance; wind 1 stays for ever and leads to the sea. */
    private static final String HALF = "region 5 1 5;wind 0 5;wind;turn 0 1 5;";
    private static final String CERTAIN = "region 0 1 10;wind 0 10;";
    /** Wind 0 leads to the sea, wind 1 surely to a good region; they alternate. */
    private static final String ALTERNATING =
            "region 0 1 10;wind;wind 0 10;turn 0 1 10;turn 1 0 10;";

    private static final Check CHECK = new Check("ChancesTest");

    public static void main(String[] args) {
        halves();
        windsAndAvoiding();
        landings();
        answersOfSeveralRegions();
        certainty();
        roundingDown();
        invalidArguments();
        noWinds();
        chancesLookAheadFromThePresentWind();
        bestDays();
        assignmentTies();
        assignmentOfAlternatingWinds();
        assignmentOfReadyBalloons();
        assignmentWithMoreBalloonsThanDays();
        CHECK.finish();
    }

    private static void due(String call, long got, long want) {
        CHECK.due(call, got, want);
    }

    private static long power(long base, int exponent) {
        return exponent == 0 ? 1 : base * power(base, exponent - 1);
    }

    private static void halves() {
        BalloonMail mail = Check.siege(HALF);
        for (int d = 0; d <= 8; d++) {
            due("windChance(0, " + d + ")", mail.windChance(0, d), power(5, d));
            due("windChance(1, " + d + ")", mail.windChance(1, d), power(10, d) - power(5, d));
            due("avoidChance(0, " + d + ")", mail.avoidChance(0, d), 0);
            due("avoidChance(1, " + d + ")", mail.avoidChance(1, d), power(5, d));
            due("landingChance(0, " + d + ")", mail.landingChance(0, d), power(5, d + 1));
            due("landingChance(NONE, " + d + ")", mail.landingChance(-2, d),
                    power(10, d + 1) - power(5, d + 1));
            due("deliveryChance(" + d + ")", mail.deliveryChance(d), power(5, d + 2));
            for (int p = 0; p <= 4; p++) {
                long chance = power(5, d + 2) * (power(10, p) - power(5, p));
                due("answerChance(" + p + ", " + d + ")", mail.answerChance(p, d), chance);
                due("answerPermille(" + p + ", " + d + ")", mail.answerPermille(p, d),
                        chance * 1000 / power(10, d + 2 + p));
            }
        }
    }

    /** From wind 0 to 1 with 3, to 2 with 2; from 1 back to 0 with 10; 2 stays. */
    private static void windsAndAvoiding() {
        BalloonMail mail = Check.siege("wind;wind;wind;turn 0 1 3;turn 1 0 10;turn 0 2 2;");
        due("windChance(0, 0)", mail.windChance(0, 0), 1);
        due("windChance(2, 0)", mail.windChance(2, 0), 0);
        due("windChance(0, 1)", mail.windChance(0, 1), 5);
        due("windChance(1, 1)", mail.windChance(1, 1), 3);
        due("windChance(2, 1)", mail.windChance(2, 1), 2);
        due("windChance(0, 2)", mail.windChance(0, 2), 25 + 30);
        due("windChance(1, 2)", mail.windChance(1, 2), 15);
        due("windChance(2, 2)", mail.windChance(2, 2), 10 + 20);
        due("avoidChance(1, 1)", mail.avoidChance(1, 1), 7);
        due("avoidChance(1, 2)", mail.avoidChance(1, 2), 25 + 10 + 20);
        due("avoidChance(2, 2)", mail.avoidChance(2, 2), 25 + 15 + 30);
        due("avoidChance(2, 3)", mail.avoidChance(2, 3), 550 * 8 / 10 + 150);
        due("avoidChance(0, 8)", mail.avoidChance(0, 8), 0);
    }

    private static void landings() {
        BalloonMail mail = Check.siege("region 10 1 1;region 0 1 1;region 3 1 1;"
                + "wind 2 1 0 4;wind 1 10;turn 0 1 1;");
        due("landingChance(0, 0), captured or not", mail.landingChance(0, 0), 4);
        due("landingChance(1, 0)", mail.landingChance(1, 0), 0);
        due("landingChance(2, 0)", mail.landingChance(2, 0), 1);
        due("landingChance(NONE, 0)", mail.landingChance(-2, 0), 5);
        due("landingChance(0, 1)", mail.landingChance(0, 1), 36);
        due("landingChance(1, 1)", mail.landingChance(1, 1), 10);
        due("landingChance(2, 1)", mail.landingChance(2, 1), 9);
        due("landingChance(NONE, 1)", mail.landingChance(-2, 1), 45);
        due("deliveryChance(0)", mail.deliveryChance(0), 7);
        due("deliveryChance(1)", mail.deliveryChance(1), 9 * 7 + 10 * 10);
    }

    /** Letters are answered unless every pigeon is lost: each region counts with its own return. */
    private static void answersOfSeveralRegions() {
        BalloonMail mail = Check.siege("region 2 9 7;region 4 1 0;region 0 5 10;wind 0 3 1 2 2 4;");
        due("answerChance(0, 0)", mail.answerChance(0, 0), 0);
        due("answerChance(1, 0)", mail.answerChance(1, 0), 24 * 7 + 40 * 10);
        due("answerChance(2, 0)", mail.answerChance(2, 0), 24 * (100 - 9) + 40 * 100);
        due("answerChance(4, 0)", mail.answerChance(4, 0), 24 * (10000 - 81) + 40 * 10000);
        due("answerChance(1, 3)", mail.answerChance(1, 3), 1000 * (24 * 7 + 40 * 10));
        due("answerPermille(1, 3)", mail.answerPermille(1, 3), 568);
        due("answerPermille(2, 0)", mail.answerPermille(2, 0), 618);
    }

    private static void certainty() {
        BalloonMail mail = Check.siege(CERTAIN + "balloon 999 4;".repeat(10));
        due("windChance(0, 8)", mail.windChance(0, 8), 100_000_000);
        due("landingChance(0, 8)", mail.landingChance(0, 8), 1_000_000_000);
        due("deliveryChance(8)", mail.deliveryChance(8), 10_000_000_000L);
        due("answerChance(4, 8)", mail.answerChance(4, 8), WHOLE_TOTAL);
        due("answerPermille(4, 8)", mail.answerPermille(4, 8), 1000);
        due("assignmentTotal()", mail.assignmentTotal(), 9 * 999 * WHOLE_TOTAL);
    }

    private static void roundingDown() {
        BalloonMail mail = Check.siege("region 9 1 9;wind 0 9;");
        due("answerChance(4, 0)", mail.answerChance(4, 0), 9 * 9999);
        due("answerPermille(4, 0) of 0.089991", mail.answerPermille(4, 0), 89);
        due("answerPermille(4, 8)", mail.answerPermille(4, 8), 89);
    }

    private static void invalidArguments() {
        BalloonMail mail = Check.siege(HALF + "balloon 1 1;");
        int[] wrongDays = {-1, 9, Integer.MIN_VALUE, Integer.MAX_VALUE};
        for (int days : wrongDays) {
            due("windChance(0, " + days + ")", mail.windChance(0, days), -1);
            due("avoidChance(0, " + days + ")", mail.avoidChance(0, days), -1);
            due("landingChance(0, " + days + ")", mail.landingChance(0, days), -1);
            due("landingChance(NONE, " + days + ")", mail.landingChance(-2, days), -1);
            due("deliveryChance(" + days + ")", mail.deliveryChance(days), -1);
            due("answerChance(1, " + days + ")", mail.answerChance(1, days), -1);
            due("answerPermille(1, " + days + ")", mail.answerPermille(1, days), -1);
        }
        int[] wrongNumbers = {-1, -3, 7, Integer.MIN_VALUE, Integer.MAX_VALUE};
        for (int number : wrongNumbers) {
            due("windChance(" + number + ", 0)", mail.windChance(number, 0), -1);
            due("avoidChance(" + number + ", 0)", mail.avoidChance(number, 0), -1);
            due("landingChance(" + number + ", 0)", mail.landingChance(number, 0), -1);
            due("answerChance(" + number + ", 0)", mail.answerChance(number, 0), -1);
            due("answerPermille(" + number + ", 0)", mail.answerPermille(number, 0), -1);
            due("bestDay(" + number + ")", mail.bestDay(number), -1);
            due("assignedDay(" + number + ")", mail.assignedDay(number), -1);
        }
        due("windChance(2, 0)", mail.windChance(2, 0), -1);
        due("windChance(-2, 0)", mail.windChance(-2, 0), -1);
        due("avoidChance(2, 0)", mail.avoidChance(2, 0), -1);
        due("avoidChance(-2, 0)", mail.avoidChance(-2, 0), -1);
        due("landingChance(1, 0)", mail.landingChance(1, 0), -1);
        due("answerChance(5, 0)", mail.answerChance(5, 0), -1);
        due("answerPermille(5, 0)", mail.answerPermille(5, 0), -1);
        due("bestDay(5)", mail.bestDay(5), -1);
        due("assignedDay(1)", mail.assignedDay(1), -1);
    }

    private static void noWinds() {
        BalloonMail mail = Check.siege("region 0 1 10;balloon 5 1;");
        due("windChance(0, 0)", mail.windChance(0, 0), -1);
        due("avoidChance(0, 0)", mail.avoidChance(0, 0), -1);
        due("landingChance(0, 0)", mail.landingChance(0, 0), -1);
        due("landingChance(NONE, 0)", mail.landingChance(-2, 0), -1);
        due("deliveryChance(0)", mail.deliveryChance(0), -1);
        due("answerChance(1, 0)", mail.answerChance(1, 0), -1);
        due("answerPermille(1, 0)", mail.answerPermille(1, 0), -1);
        due("bestDay(1)", mail.bestDay(1), -1);
        due("assignmentTotal()", mail.assignmentTotal(), -1);
        due("assignedDay(0)", mail.assignedDay(0), -1);
    }

    private static void chancesLookAheadFromThePresentWind() {
        BalloonMail mail = Check.siege(ALTERNATING + "start 1;balloon 3 2;balloon 4 1;");
        due("windChance(1, 0)", mail.windChance(1, 0), 1);
        due("deliveryChance(0)", mail.deliveryChance(0), 100);
        due("bestDay(1)", mail.bestDay(1), 0);
        due("assignedDay(1)", mail.assignedDay(1), 2);
        mail.nextDay();
        due("windChance(1, 0) on the next day", mail.windChance(1, 0), 0);
        due("windChance(1, 1) on the next day", mail.windChance(1, 1), 10);
        due("avoidChance(1, 0) on the next day", mail.avoidChance(1, 0), 1);
        due("landingChance(NONE, 0) on the next day", mail.landingChance(-2, 0), 10);
        due("deliveryChance(0) on the next day", mail.deliveryChance(0), 0);
        due("bestDay(1) on the next day", mail.bestDay(1), 1);
        due("assignedDay(1) on the next day", mail.assignedDay(1), 3);
        mail.undo();
        due("assignedDay(1) after undo", mail.assignedDay(1), 2);
    }

    private static void bestDays() {
        BalloonMail mail = Check.siege("region 0 1 9;region 0 1 5;wind 1 10;wind;wind 0 9;"
                + "turn 0 1 10;turn 1 2 5;");
        due("bestDay(0), all are 0", mail.bestDay(0), 0);
        due("bestDay(1), 0.81 times 1 - 0.5 to the 7th", mail.bestDay(1), 8);
        due("bestDay(2)", mail.bestDay(2), 8);
        due("bestDay(4), 0.9375 at once", mail.bestDay(4), 0);
        due("bestDay of equal days", Check.siege(CERTAIN).bestDay(4), 0);
        due("bestDay of alternating days", Check.siege(ALTERNATING).bestDay(1), 1);
    }

    private static void assignmentTies() {
        BalloonMail mail = Check.siege(CERTAIN + "balloon 5 1;balloon 7 4;balloon 5 1;loft 0;");
        due("assignmentTotal()", mail.assignmentTotal(), 17 * WHOLE_TOTAL);
        due("assignedDay(0)", mail.assignedDay(0), 0);
        due("assignedDay(1)", mail.assignedDay(1), 1);
        due("assignedDay(2)", mail.assignedDay(2), 2);
        BalloonMail none = Check.siege(CERTAIN);
        due("assignmentTotal() without balloons", none.assignmentTotal(), 0);
        BalloonMail idle = Check.siege(CERTAIN + "balloon 5 0;".repeat(10));
        due("assignmentTotal() without pigeons", idle.assignmentTotal(), 0);
        for (int balloon = 0; balloon < 9; balloon++) {
            due("assignedDay(" + balloon + ") without pigeons", idle.assignedDay(balloon), balloon);
        }
        due("assignedDay(9) without pigeons", idle.assignedDay(9), -2);
    }

    private static void assignmentOfAlternatingWinds() {
        BalloonMail mail = Check.siege(ALTERNATING
                + "balloon 5 1;balloon 9 1;balloon 9 2;balloon 9 3;balloon 9 4;");
        due("assignmentTotal()", mail.assignmentTotal(), 36 * WHOLE_TOTAL);
        int[] days = {0, 1, 3, 5, 7};
        for (int balloon = 0; balloon < 5; balloon++) {
            due("assignedDay(" + balloon + ")", mail.assignedDay(balloon), days[balloon]);
        }
        mail = Check.siege(ALTERNATING
                + "balloon 9 1;balloon 9 2;balloon 8 0;balloon 9 3;balloon 9 4;balloon 5 1;");
        due("assignmentTotal()", mail.assignmentTotal(), 36 * WHOLE_TOTAL);
        int[] others = {1, 3, 0, 5, 7, 2};
        for (int balloon = 0; balloon < 6; balloon++) {
            due("assignedDay(" + balloon + ")", mail.assignedDay(balloon), others[balloon]);
        }
    }

    private static void assignmentOfReadyBalloons() {
        BalloonMail mail = Check.siege(CERTAIN + "balloon 5 1;balloon 7 2;balloon 6 1;");
        due("assignedDay(2)", mail.assignedDay(2), 2);
        due("launch(1, 0)", mail.launch(1, 0), 3);
        due("assignmentTotal() of two", mail.assignmentTotal(), 11 * WHOLE_TOTAL);
        due("assignedDay(0) of two", mail.assignedDay(0), 0);
        due("assignedDay(1), not ready", mail.assignedDay(1), -2);
        due("assignedDay(2) of two", mail.assignedDay(2), 1);
        mail.undo();
        due("assignmentTotal() after undo", mail.assignmentTotal(), 18 * WHOLE_TOTAL);
        due("launch(0, 0)", mail.launch(0, 0), 3);
        due("assignedDay(0), not ready", mail.assignedDay(0), -2);
        due("assignmentTotal() of balloons 1 and 2", mail.assignmentTotal(), 13 * WHOLE_TOTAL);
        mail.launch(1, 0);
        mail.launch(2, 0);
        due("assignmentTotal() of none", mail.assignmentTotal(), 0);
        due("assignedDay(2) of none", mail.assignedDay(2), -2);
        due("a new siege", Check.parse(mail, CERTAIN + "balloon 4 0;balloon 3 1;balloon 1 1;"), 0);
        due("assignmentTotal() of the new siege", mail.assignmentTotal(), 4 * WHOLE_TOTAL);
        due("a smaller siege", Check.parse(mail, CERTAIN + "balloon 2 1;"), 0);
        due("assignmentTotal() of the smaller siege", mail.assignmentTotal(), 2 * WHOLE_TOTAL);
    }

    private static void assignmentWithMoreBalloonsThanDays() {
        BalloonMail mail = Check.siege(CERTAIN + "balloon 1 1;" + "balloon 2 1;".repeat(9));
        due("assignmentTotal()", mail.assignmentTotal(), 18 * WHOLE_TOTAL);
        due("assignedDay(0)", mail.assignedDay(0), -2);
        for (int balloon = 1; balloon < 10; balloon++) {
            due("assignedDay(" + balloon + ")", mail.assignedDay(balloon), balloon - 1);
        }
    }
}
