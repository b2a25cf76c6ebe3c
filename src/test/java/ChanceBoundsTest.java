/** The boundaries of promises 11 to 19: winds, chances, the best day and the best assignment. */
public final class ChanceBoundsTest {
    private static final long CERTAIN_TOTAL = 100_000_000_000_000L;
    private static final String GOOD = "region 0 1 10;wind 0 10;";
    /** Six winds, each of which may follow the one before; from the last one no wind follows. */
    private static final String CHAIN = "turn 0 1 1;turn 1 2 1;turn 2 3 1;turn 3 4 1;turn 4 5 1;";
    /** The end of the chain after 8 days: 1 way in 5 days, 5 * 9 more in 6, 15 * 81 in 7 and 35 * 729 in 8. */
    private static final long RARE = 1000 + 100 * 45 + 10 * 1215 + 25_515;
    /** From wind 0 wind 1 follows with 3 tenths, and wind 2 never. */
    private static final String AVOIDING = "wind;wind;wind;turn 0 1 3;turn 1 0 10;";
    private static final String EIGHT_REGIONS = "region 0 1 1;".repeat(7) + "region 10 1 1;wind 0 2 7 1;";
    /** The later the day, the greater the chance. */
    private static final String GROWING = "region 0 1 10;wind;wind 0 10;turn 0 1 1;";

    public static void main(String[] args) throws ReflectiveOperationException {
        Bounds.run(ChanceBoundsTest.class);
    }

    // ---- winds

    @Says(in = "WINDS", value = {"On each day there is one wind.",
        "On the next day it changes with these chances: for each turn from the present wind, in tenths, "
            + "its weight is the chance that the second wind of the turn follows; with the rest of 10 the wind stays."})
    static void restOfTheTurns(Check check) {
        for (int weight = 1; weight <= 10; weight++) {
            BalloonMail mail = Check.siege("wind;wind;turn 0 1 " + weight + ";");
            check.due("windChance(1, 1)", mail.windChance(1, 1), weight);
            check.due("windChance(0, 1), the rest", mail.windChance(0, 1), 10 - weight);
            check.due("windChance(0, 8)", mail.windChance(0, 8), Bounds.power(10 - weight, 8));
        }
        BalloonMail still = Check.siege("wind;wind;turn 1 0 10;");
        check.due("windChance(0, 8) without a turn", still.windChance(0, 8), 100_000_000);
        check.due("windChance(1, 8) without a turn", still.windChance(1, 8), 0);
        BalloonMail restless = Check.siege("wind;".repeat(6)
                + "turn 0 1 2;turn 0 2 2;turn 0 3 2;turn 0 4 2;turn 0 5 2;");
        check.due("windChance(0, 1) without a rest", restless.windChance(0, 1), 0);
        for (int wind = 1; wind < 6; wind++) {
            check.due("windChance(" + wind + ", 1)", restless.windChance(wind, 1), 2);
        }
    }

    @Says(in = "WINDS",
            value = "A balloon that is launched in a wind comes down in a region with the chance (in tenths) "
            + "that the wind's statement gives to this region, and with the rest of 10 in the sea.")
    static void restOfTheRegions(Check check) {
        for (int weight = 1; weight <= 10; weight++) {
            BalloonMail mail = Check.siege("region 5 1 1;region 5 1 1;wind 1 " + weight + ";");
            check.due("landingChance(1, 0)", mail.landingChance(1, 0), weight);
            check.due("landingChance(0, 0), not named", mail.landingChance(0, 0), 0);
            check.due("landingChance(NONE, 0), the rest", mail.landingChance(-2, 0), 10 - weight);
        }
        BalloonMail calm = Check.siege("region 5 1 1;wind;");
        check.due("landingChance(0, 0) of no region", calm.landingChance(0, 0), 0);
        check.due("landingChance(NONE, 0) of no region", calm.landingChance(-2, 0), 10);
        BalloonMail full = Check.siege("region 5 1 1;".repeat(8) + "wind 0 1 1 1 2 1 3 1 4 1 5 1 6 1 7 3;");
        check.due("landingChance(NONE, 0) without a rest", full.landingChance(-2, 0), 0);
        check.due("landingChance(7, 0)", full.landingChance(7, 0), 3);
    }

    // ---- chances

    @Says(in = "CHANCES", value = "The chance methods look ahead from the present day with its present wind; "
            + "a number of days says how many days later something happens.")
    static void fromThePresentWind(Check check) {
        BalloonMail mail = Check.siege("region 0 1 10;wind 0 10;wind;turn 0 1 10;turn 1 0 10;balloon 1 1;");
        for (int day = 0; day < 20; day++) {
            int good = day % 2 == 0 ? 1 : 0;
            check.due("windChance(0, 0) on day " + day, mail.windChance(0, 0), good);
            check.due("windChance(0, 1) on day " + day, mail.windChance(0, 1), 10 * (1 - good));
            check.due("avoidChance(0, 0) on day " + day, mail.avoidChance(0, 0), 1 - good);
            check.due("landingChance(0, 8) on day " + day, mail.landingChance(0, 8), 1_000_000_000L * good);
            check.due("deliveryChance(7) on day " + day, mail.deliveryChance(7), 1_000_000_000L * (1 - good));
            check.due("answerChance(1, 0) on day " + day, mail.answerChance(1, 0), 1000 * good);
            check.due("bestDay(1) on day " + day, mail.bestDay(1), 1 - good);
            check.due("assignedDay(0) on day " + day, mail.assignedDay(0), 1 - good);
            mail.nextDay();
        }
    }

    @Says(in = "CHANCES",
            value = "They return an exact numerator; the denominator is a power of 10 that is given for each method.")
    static void exactNumerators(Check check) {
        BalloonMail mail = Check.siege("region 9 1 1;" + "wind;".repeat(5) + "wind 0 1;" + CHAIN);
        check.due("the least chance", mail.windChance(5, 5), 1);
        check.due("windChance(5, 8)", mail.windChance(5, 8), RARE);
        check.due("avoidChance(5, 8)", mail.avoidChance(5, 8), 100_000_000 - RARE);
        check.due("landingChance(0, 8)", mail.landingChance(0, 8), RARE);
        check.due("landingChance(NONE, 8)", mail.landingChance(-2, 8), 1_000_000_000 - RARE);
        check.due("deliveryChance(8)", mail.deliveryChance(8), RARE);
        check.due("answerChance(4, 8)", mail.answerChance(4, 8), RARE * (10_000 - 9 * 9 * 9 * 9));
    }

    // ---- the chances of the winds

    private static BalloonMail noWinds() {
        return Check.siege("region 0 1 10;region 0 1 10;balloon 1 1;letter 1 1;");
    }

    @Says(in = "Promise 11",
            value = {"Returns the chance that there is a given wind after some days.", "- `days`: 0 to 8"})
    static void windChanceDays(Check check) {
        BalloonMail mail = Check.siege("wind;".repeat(6) + CHAIN);
        Bounds.within(check, "windChance(0) after days", 0, 8, days -> mail.windChance(0, days));
        Bounds.within(check, "windChance(5) after days", 0, 8, days -> mail.windChance(5, days));
        check.due("windChance(0, 0)", mail.windChance(0, 0), 1);
        check.due("windChance(1, 0)", mail.windChance(1, 0), 0);
        check.due("windChance(0, 8)", mail.windChance(0, 8), 43_046_721);
        check.due("windChance(5, 4)", mail.windChance(5, 4), 0);
        check.due("windChance(5, 5)", mail.windChance(5, 5), 1);
    }

    @Says(in = "Promise 11", value = "Returns the numerator for the denominator 10 to the power of days; "
            + "INVALID if there is no such wind or days is out of range.")
    static void windChanceWinds(Check check) {
        BalloonMail mail = Check.siege("wind;".repeat(6) + CHAIN);
        Bounds.within(check, "windChance of winds", 0, 5, wind -> mail.windChance(wind, 0));
        Bounds.within(check, "windChance of winds after 8 days", 0, 5, wind -> mail.windChance(wind, 8));
        check.due("windChance(-2, 0)", mail.windChance(-2, 0), -1);
        check.due("windChance(6, 9)", mail.windChance(6, 9), -1);
        for (int days = 0; days <= 8; days++) {
            long sum = 0;
            for (int wind = 0; wind < 6; wind++) {
                sum += mail.windChance(wind, days);
            }
            check.due("the sum of the chances after " + days, sum, Bounds.power(10, days));
        }
        BalloonMail none = noWinds();
        Bounds.never(check, "windChance without winds", wind -> none.windChance(wind, 0));
    }

    @Says(in = "Promise 12", value = "Returns the chance that a given wind does not occur on any of the days "
            + "from today to a later day, both included.")
    static void avoidedFromTodayOn(Check check) {
        BalloonMail late = Check.siege("wind;wind;turn 0 1 10;");
        check.due("avoidChance(0, 0), the first day is included", late.avoidChance(0, 0), 0);
        check.due("avoidChance(1, 0)", late.avoidChance(1, 0), 1);
        check.due("avoidChance(1, 1), the last day is included", late.avoidChance(1, 1), 0);
        late.nextDay();
        check.due("avoidChance(1, 0) on that day", late.avoidChance(1, 0), 0);
        check.due("avoidChance(0, 8) after that day", late.avoidChance(0, 8), 100_000_000);
    }

    @Says(in = "Promise 12", value = "- `days`: 0 to 8, how many days later the last of these days is")
    static void avoidChanceDays(Check check) {
        BalloonMail mail = Check.siege(AVOIDING);
        Bounds.within(check, "avoidChance(0) for days", 0, 8, days -> mail.avoidChance(0, days));
        Bounds.within(check, "avoidChance(1) for days", 0, 8, days -> mail.avoidChance(1, days));
        for (int days = 0; days <= 8; days++) {
            check.due("avoidChance(1, " + days + ")", mail.avoidChance(1, days), Bounds.power(7, days));
        }
    }

    @Says(in = "Promise 12", value = "Returns the numerator for the denominator 10 to the power of days; "
            + "INVALID if there is no such wind or days is out of range.")
    static void avoidChanceWinds(Check check) {
        BalloonMail mail = Check.siege(AVOIDING);
        Bounds.within(check, "avoidChance of winds", 0, 2, wind -> mail.avoidChance(wind, 0));
        Bounds.within(check, "avoidChance of winds for 8 days", 0, 2, wind -> mail.avoidChance(wind, 8));
        check.due("avoidChance(-2, 0)", mail.avoidChance(-2, 0), -1);
        check.due("avoidChance(3, 9)", mail.avoidChance(3, 9), -1);
        for (int days = 0; days <= 8; days++) {
            check.due("avoidChance of today's wind", mail.avoidChance(0, days), 0);
            check.due("avoidChance of a wind that never comes", mail.avoidChance(2, days), Bounds.power(10, days));
        }
        BalloonMail none = noWinds();
        Bounds.never(check, "avoidChance without winds", wind -> none.avoidChance(wind, 0));
    }

    // ---- the chances of a balloon

    @Says(in = "Promise 13", value = "Returns the chance that a balloon that is launched after some days "
            + "comes down in a region (captured or not).")
    static void landingOfTheCaptured(Check check) {
        for (int risk = 0; risk <= 10; risk += 5) {
            BalloonMail mail = Check.siege("region " + risk + " 1 1;wind 0 3;");
            check.due("landingChance(0, 0) with risk " + risk, mail.landingChance(0, 0), 3);
            check.due("landingChance(0, 8) with risk " + risk, mail.landingChance(0, 8), 300_000_000);
        }
    }

    @Says(in = "Promise 13", value = "- `region`: the region, or NONE for the sea")
    static void landingRegions(Check check) {
        BalloonMail mail = Check.siege(EIGHT_REGIONS);
        Bounds.within(check, "landingChance of regions", 0, 7, region -> mail.landingChance(region, 0));
        check.due("landingChance(0, 0)", mail.landingChance(0, 0), 2);
        check.due("landingChance(7, 0)", mail.landingChance(7, 0), 1);
        check.due("landingChance(NONE, 0)", mail.landingChance(-2, 0), 7);
        check.due("landingChance(-3, 0)", mail.landingChance(-3, 0), -1);
    }

    @Says(in = "Promise 13", value = "- `days`: 0 to 8")
    static void landingDays(Check check) {
        BalloonMail mail = Check.siege(EIGHT_REGIONS);
        Bounds.within(check, "landingChance(7) after days", 0, 8, days -> mail.landingChance(7, days));
        Bounds.within(check, "landingChance(NONE) after days", 0, 8, days -> mail.landingChance(-2, days));
    }

    @Says(in = "Promise 13", value = "Returns the numerator for the denominator 10 to the power of days + 1; "
            + "INVALID if there is no such region, days is out of range, or there are no winds.")
    static void landingChances(Check check) {
        BalloonMail mail = Check.siege(EIGHT_REGIONS);
        for (int days = 0; days <= 8; days++) {
            check.due("landingChance(7, " + days + ")", mail.landingChance(7, days), Bounds.power(10, days));
            check.due("landingChance(NONE, " + days + ")", mail.landingChance(-2, days), 7 * Bounds.power(10, days));
        }
        BalloonMail sea = Check.siege("wind;");
        check.due("landingChance(NONE, 0) without regions", sea.landingChance(-2, 0), 10);
        check.due("landingChance(0, 0) without regions", sea.landingChance(0, 0), -1);
        check.due("landingChance(-1, 0) without regions", sea.landingChance(-1, 0), -1);
        BalloonMail none = noWinds();
        Bounds.never(check, "landingChance without winds", region -> none.landingChance(region, 0));
    }

    @Says(in = "Promise 14", value = {
        "Returns the chance that the letters of a balloon that is launched after some days are delivered.",
        "- `days`: 0 to 8"})
    static void deliveryDays(Check check) {
        Bounds.within(check, "deliveryChance", 0, 8, Check.siege("wind;")::deliveryChance);
        Bounds.within(check, "deliveryChance", 0, 8, Check.siege("region 0 1 1;wind 0 10;")::deliveryChance);
    }

    @Says(in = "Promise 14", value = "Returns the numerator for the denominator 10 to the power of days + 2; "
            + "INVALID if days is out of range or there are no winds.")
    static void deliveryChances(Check check) {
        for (int risk = 0; risk <= 10; risk++) {
            BalloonMail mail = Check.siege("region " + risk + " 1 1;wind 0 10;");
            check.due("deliveryChance(0) with risk " + risk, mail.deliveryChance(0), 10 * (10 - risk));
            check.due("deliveryChance(8) with risk " + risk, mail.deliveryChance(8), 1_000_000_000L * (10 - risk));
        }
        check.due("deliveryChance(8) of the sea", Check.siege("region 0 1 1;wind;").deliveryChance(8), 0);
        Bounds.never(check, "deliveryChance without winds", noWinds()::deliveryChance);
    }

    @Says(in = "Promise 15", value = {
        "Returns the chance that the letters of a balloon that is launched after some days are ever answered.",
        "- `pigeons`: number of pigeons in the balloon, 0 to 4"})
    static void answerPigeons(Check check) {
        BalloonMail mail = Check.siege("region 0 9 9;wind 0 10;loft 0;");
        Bounds.within(check, "answerChance of pigeons", 0, 4, pigeons -> mail.answerChance(pigeons, 0));
        Bounds.within(check, "answerChance of pigeons after 8 days", 0, 4, pigeons -> mail.answerChance(pigeons, 8));
        check.due("answerChance(0, 0)", mail.answerChance(0, 0), 0);
        check.due("answerChance(4, 0)", mail.answerChance(4, 0), 999_900);
    }

    @Says(in = "Promise 15", value = "- `days`: 0 to 8")
    static void answerDays(Check check) {
        BalloonMail mail = Check.siege("region 0 9 9;wind 0 10;");
        for (int pigeons = 0; pigeons <= 4; pigeons++) {
            int crew = pigeons;
            Bounds.within(check, "answerChance(" + crew + ") after days", 0, 8, days -> mail.answerChance(crew, days));
        }
    }

    @Says(in = "Promise 15", value = "Returns the numerator for the denominator 10 to the power of days + 2 + pigeons; "
            + "INVALID if an argument is out of range or there are no winds.")
    static void answerChances(Check check) {
        BalloonMail mail = Check.siege("region 0 9 9;wind 0 10;");
        for (int pigeons = 0; pigeons <= 4; pigeons++) {
            long chance = Bounds.power(10, pigeons) - 1;
            check.due("answerChance(" + pigeons + ", 0)", mail.answerChance(pigeons, 0), 100 * chance);
            check.due("answerChance(" + pigeons + ", 8)", mail.answerChance(pigeons, 8), 10_000_000_000L * chance);
        }
        check.due("answerChance(4, 8), certain", Check.siege(GOOD).answerChance(4, 8), CERTAIN_TOTAL);
        check.due("answerChance(4, 8), never", Check.siege("region 0 1 0;wind 0 10;").answerChance(4, 8), 0);
        check.due("answerChance(5, 9)", mail.answerChance(5, 9), -1);
        BalloonMail none = noWinds();
        Bounds.never(check, "answerChance without winds", pigeons -> none.answerChance(pigeons, 0));
    }

    @Says(in = "Promise 16", value = {"Returns the chance of answerChance in thousandths.", "- `pigeons`: 0 to 4"})
    static void permillePigeons(Check check) {
        BalloonMail mail = Check.siege("region 0 1 9;wind 0 10;");
        Bounds.within(check, "answerPermille of pigeons", 0, 4, pigeons -> mail.answerPermille(pigeons, 0));
        Bounds.within(check, "answerPermille of pigeons after 8", 0, 4, pigeons -> mail.answerPermille(pigeons, 8));
    }

    @Says(in = "Promise 16", value = "- `days`: 0 to 8")
    static void permilleDays(Check check) {
        BalloonMail mail = Check.siege("region 0 1 9;wind 0 10;");
        for (int pigeons = 0; pigeons <= 4; pigeons++) {
            int crew = pigeons;
            Bounds.within(check, "answerPermille(" + crew + ")", 0, 8, days -> mail.answerPermille(crew, days));
        }
    }

    @Says(in = "Promise 16", value = "Returns the chance times 1000, rounded down; "
            + "INVALID if an argument is out of range or there are no winds.")
    static void permilles(Check check) {
        BalloonMail mail = Check.siege("region 0 1 9;wind 0 10;");
        check.due("0", mail.answerPermille(0, 8), 0);
        check.due("0.9", mail.answerPermille(1, 8), 900);
        check.due("0.999", mail.answerPermille(3, 0), 999);
        check.due("0.9999, rounded down", mail.answerPermille(4, 8), 999);
        check.due("1", Check.siege(GOOD).answerPermille(4, 8), 1000);
        BalloonMail rare = Check.siege("region 9 1 1;wind 0 1;wind;turn 0 1 1;");
        check.due("0.001", rare.answerPermille(1, 0), 1);
        check.due("0.0009, rounded down", rare.answerPermille(1, 1), 0);
        check.due("answerPermille(5, 9)", mail.answerPermille(5, 9), -1);
        BalloonMail none = noWinds();
        Bounds.never(check, "answerPermille without winds", pigeons -> none.answerPermille(pigeons, 0));
    }

    @Says(in = "Promise 17",
            value = "Returns the number of days, 0 to 8, after which a balloon has the greatest chance "
            + "that its letters are answered.")
    static void bestDays(Check check) {
        check.due("bestDay(1), the last day", Check.siege(GROWING).bestDay(1), 8);
        check.due("bestDay(4), the last day", Check.siege(GROWING).bestDay(4), 8);
        BalloonMail falling = Check.siege("region 0 1 10;wind 0 10;wind;turn 0 1 1;");
        check.due("bestDay(4), the first day", falling.bestDay(4), 0);
        BalloonMail littleMore = Check.siege("region 0 1 1;" + "wind 0 5;".repeat(5) + "wind 0 6;" + CHAIN);
        check.due("bestDay(1), a little more on the last day", littleMore.bestDay(1), 8);
    }

    @Says(in = "Promise 17", value = "Ties go to the smallest number.")
    static void equalDays(Check check) {
        check.due("bestDay(0), all days have the chance 0", Check.siege(GROWING).bestDay(0), 0);
        check.due("bestDay(4), all days are certain", Check.siege(GOOD).bestDay(4), 0);
        BalloonMail littleLess = Check.siege("region 0 1 1;" + "wind 0 5;".repeat(5) + "wind 0 4;" + CHAIN);
        check.due("bestDay(1), ties on the days 0 to 4", littleLess.bestDay(1), 0);
        BalloonMail peak = Check.siege("region 0 1 1;wind;wind;wind 0 10;wind;"
                + "turn 0 1 10;turn 1 2 10;turn 2 3 10;turn 3 0 10;");
        check.due("bestDay(4), ties on the days 2 and 6", peak.bestDay(4), 2);
    }

    @Says(in = "Promise 17", value = {"- `pigeons`: number of pigeons in the balloon, 0 to 4",
        "Returns the number of days; INVALID if pigeons is out of range or there are no winds."})
    static void bestDayPigeons(Check check) {
        Bounds.within(check, "bestDay", 0, 4, Check.siege(GROWING)::bestDay);
        Bounds.within(check, "bestDay of the sea", 0, 4, Check.siege("wind;")::bestDay);
        Bounds.never(check, "bestDay without winds", noWinds()::bestDay);
    }

    // ---- assignment

    private static void dueDays(Check check, String what, BalloonMail mail, int... days) {
        check.due(what + ": balloons", mail.balloonCount(), days.length);
        for (int balloon = 0; balloon < days.length; balloon++) {
            check.due(what + ": assignedDay(" + balloon + ")", mail.assignedDay(balloon), days[balloon]);
        }
    }

    @Says(in = "ASSIGNMENT",
            value = "An assignment lets some of the ready balloons fly on some of the days 0 to 8 from now, "
            + "at most one balloon on each day and each balloon at most once.")
    static void oneBalloonADay(Check check) {
        BalloonMail one = Check.siege(GOOD + "balloon 999 4;");
        check.due("one balloon flies once", one.assignmentTotal(), 999 * CERTAIN_TOTAL);
        dueDays(check, "one balloon", one, 0);
        BalloonMail nine = Check.siege(GOOD + "balloon 7 4;".repeat(9));
        check.due("nine balloons", nine.assignmentTotal(), 63 * CERTAIN_TOTAL);
        dueDays(check, "nine balloons", nine, 0, 1, 2, 3, 4, 5, 6, 7, 8);
        BalloonMail ten = Check.siege(GOOD + "balloon 7 4;".repeat(10));
        check.due("ten balloons", ten.assignmentTotal(), 63 * CERTAIN_TOTAL);
        dueDays(check, "ten balloons", ten, 0, 1, 2, 3, 4, 5, 6, 7, 8, -2);
        check.due("launch(4, 0)", ten.launch(4, 0), 3);
        check.due("nine that are ready", ten.assignmentTotal(), 63 * CERTAIN_TOTAL);
        dueDays(check, "nine that are ready", ten, 0, 1, 2, 3, -2, 4, 5, 6, 7, 8);
        BalloonMail lastDay = Check.siege(GROWING + "balloon 1 4;");
        dueDays(check, "the last day", lastDay, 8);
    }

    @Says(in = "ASSIGNMENT", value = "Its total is the sum, over the balloons that fly, "
            + "of the capacity times the chance that a letter in this balloon is answered.")
    static void totals(Check check) {
        BalloonMail mail = Check.siege("region 0 1 5;wind 0 10;balloon 1 0;balloon 10 1;balloon 100 4;");
        check.due("0 + 10 * 0.5 + 100 * 0.9375", mail.assignmentTotal(), 987_500_000_000_0000L);
        mail.launch(2, 0);
        check.due("0 + 10 * 0.5", mail.assignmentTotal(), 5 * CERTAIN_TOTAL);
        mail.launch(1, 0);
        check.due("0", mail.assignmentTotal(), 0);
        BalloonMail rare = Check.siege("region 9 1 1;" + "wind;".repeat(5) + "wind 0 1;" + CHAIN + "balloon 1 1;");
        check.due("the least chance counts", rare.assignmentTotal(), RARE * 1000);
    }

    @Says(in = "ASSIGNMENT",
            value = "The best assignment has the greatest total; among several, the one whose sequence "
            + "of days, by ascending number of the balloons that are ready, comes first lexicographically, "
            + "where a balloon that does not fly counts as day 9.")
    static void firstOfTheBest(Check check) {
        BalloonMail idle = Check.siege(GOOD + "balloon 7 0;".repeat(10));
        dueDays(check, "without pigeons", idle, 0, 1, 2, 3, 4, 5, 6, 7, 8, -2);
        BalloonMail small = Check.siege(GOOD + "balloon 1 1;" + "balloon 2 1;".repeat(9));
        dueDays(check, "the greatest total first", small, -2, 0, 1, 2, 3, 4, 5, 6, 7, 8);
        BalloonMail last = Check.siege(GOOD + "balloon 2 1;".repeat(9) + "balloon 3 1;");
        dueDays(check, "not to fly as late as can be", last, 0, 1, 2, 3, 4, 5, 6, 7, -2, 8);
        String turning = "region 0 1 10;wind;wind 0 10;turn 0 1 10;turn 1 0 10;";
        BalloonMail free = Check.siege(turning + "balloon 9 0;" + "balloon 9 1;".repeat(4) + "balloon 9 0;");
        dueDays(check, "those without gain take the first free days", free, 0, 1, 3, 5, 7, 2);
        BalloonMail five = Check.siege(turning + "balloon 9 1;".repeat(5));
        dueDays(check, "the first balloon takes day 0", five, 0, 1, 3, 5, 7);
        five.launch(0, 0);
        dueDays(check, "only ready balloons count", five, -2, 1, 3, 5, 7);
    }

    @Says(in = "ASSIGNMENT", value = "The number of pigeons in the loft plays no part.")
    static void emptyLoft(Check check) {
        BalloonMail mail = Check.siege(GOOD + "balloon 5 4;balloon 5 4;loft 0;");
        check.due("assignmentTotal() with an empty loft", mail.assignmentTotal(), 10 * CERTAIN_TOTAL);
        dueDays(check, "with an empty loft", mail, 0, 1);
        check.due("launch(0, 0)", mail.launch(0, 0), -4);
    }

    @Says(in = "Promise 18", value = {"Returns the total of the best assignment.",
        "Returns the numerator for the denominator 10 to the power of 14; INVALID if there are no winds."})
    static void assignmentTotals(Check check) {
        check.due("without winds", noWinds().assignmentTotal(), -1);
        check.due("of the empty siege", new BalloonMail().assignmentTotal(), -1);
        check.due("without balloons", Check.siege(GOOD).assignmentTotal(), 0);
        check.due("without regions", Check.siege("wind;balloon 9 4;").assignmentTotal(), 0);
        BalloonMail greatest = Check.siege(GOOD + "balloon 999 4;".repeat(10));
        check.due("the greatest total", greatest.assignmentTotal(), 9 * 999 * CERTAIN_TOTAL);
        BalloonMail mail = Check.siege(GOOD + "balloon 3 1;");
        check.due("with a ready balloon", mail.assignmentTotal(), 3 * CERTAIN_TOTAL);
        mail.launch(0, 0);
        check.due("without a ready balloon", mail.assignmentTotal(), 0);
        mail.undo();
        check.due("after undo", mail.assignmentTotal(), 3 * CERTAIN_TOTAL);
        check.due("a siege with another balloon", Check.parse(mail, GOOD + "balloon 5 1;"), 0);
        check.due("with the other balloon", mail.assignmentTotal(), 5 * CERTAIN_TOTAL);
        mail.parse(0);
        check.due("after the winds are gone", mail.assignmentTotal(), -1);
    }

    @Says(in = "Promise 19", value = {"Returns the day on which a balloon flies in the best assignment.",
        "Returns the number of days from now, 0 to 8; NONE if it does not fly or is not ready; "
            + "INVALID if there is no such balloon or there are no winds."})
    static void assignedDays(Check check) {
        BalloonMail mail = Check.siege(GOOD + "balloon 3 1;".repeat(10));
        Bounds.within(check, "assignedDay", 0, 9, mail::assignedDay);
        check.due("assignedDay(-2)", mail.assignedDay(-2), -1);
        check.due("assignedDay(8)", mail.assignedDay(8), 8);
        check.due("assignedDay(9), it does not fly", mail.assignedDay(9), -2);
        mail.launch(0, 0);
        check.due("assignedDay(0), not ready", mail.assignedDay(0), -2);
        check.due("assignedDay(9), now it flies", mail.assignedDay(9), 8);
        mail.nextDay();
        check.due("assignedDay(1) counts from the new day", mail.assignedDay(1), 0);
        BalloonMail one = Check.siege("wind;balloon 1 1;letter 1 1;letter 1 1;");
        Bounds.within(check, "assignedDay of one balloon", 0, 0, one::assignedDay);
        Bounds.never(check, "assignedDay without balloons", Check.siege(GOOD)::assignedDay);
        Bounds.never(check, "assignedDay without winds", noWinds()::assignedDay);
    }
}
