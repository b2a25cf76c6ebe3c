/** Promises 24 to 32: the days, the winds, the launches and what they draw. */
public final class FlyingTest {
    /** The draws from the seed 1 are 8 8 3 5 1 7 0 9 2 6: the C standard's rand, modulo 10. */
    private static final int[] DRAWS = {8, 8, 3, 5, 1, 7, 0, 9, 2, 6};

    private static final Check CHECK = new Check("FlyingTest");

    public static void main(String[] args) {
        daysAndWinds();
        drawsOfNextDay();
        drawsWithoutTurns();
        turnsInOrderOfDeclaration();
        launchesDrawTheRegion();
        launchesDrawTheCapture();
        launchesDrawThePigeons();
        seeds();
        refusedLaunches();
        orderOfRefusals();
        launchWithoutWinds();
        statesAndRegions();
        answers();
        numbersOutOfRange();
        CHECK.finish();
    }

    private static void due(String call, long got, long want) {
        CHECK.due(call, got, want);
    }

    private static void daysAndWinds() {
        BalloonMail mail = Check.siege("wind;wind;wind;turn 0 1 10;turn 1 0 10;");
        due("day()", mail.day(), 0);
        due("wind() without start", mail.wind(), 0);
        for (int day = 1; day <= 40; day++) {
            due("nextDay()", mail.nextDay(), day % 2);
            due("day()", mail.day(), day);
            due("wind()", mail.wind(), day % 2);
        }
        due("wind() with start", Check.siege("wind;wind;wind;start 2;").wind(), 2);
        BalloonMail calm = new BalloonMail();
        due("wind() without winds", calm.wind(), -2);
        due("nextDay() without winds", calm.nextDay(), -2);
        due("day() without winds", calm.day(), 1);
        due("eventCount() without winds", calm.eventCount(), 0);
    }

    private static void drawsOfNextDay() {
        for (int weight = 1; weight <= 9; weight++) {
            BalloonMail mail = Check.siege("wind;wind;turn 0 1 " + weight + ";turn 1 0 " + weight + ";");
            int wind = 0;
            for (int draw : DRAWS) {
                wind = draw < weight ? 1 - wind : wind;
                due("nextDay() with turns of weight " + weight, mail.nextDay(), wind);
            }
        }
    }

    /** nextDay draws even if there is nothing to choose. */
    private static void drawsWithoutTurns() {
        BalloonMail mail = Check.siege("region 8 1 0;wind 0 9;balloon 1 0;balloon 1 0;");
        mail.nextDay();
        due("launch draws 8 and 3", mail.launch(0, 0), 2);
        mail.undo();
        mail.undo();
        due("launch draws 8 and 8", mail.launch(0, 0), 3);
        due("launch draws 3 and 5", mail.launch(1, 0), 2);
    }

    private static void turnsInOrderOfDeclaration() {
        String winds = "wind;wind;wind;wind;";
        due("8 - 5 - 3 < 1", Check.siege(winds + "turn 0 1 5;turn 0 2 3;turn 0 3 1;").nextDay(), 3);
        due("8 - 1 - 3 < 5", Check.siege(winds + "turn 0 3 1;turn 0 2 3;turn 0 1 5;").nextDay(), 1);
        due("8 - 3 < 6", Check.siege(winds + "turn 0 2 3;turn 0 1 6;").nextDay(), 1);
        due("others' turns do not count",
                Check.siege(winds + "turn 1 3 9;turn 0 2 8;turn 2 3 9;turn 0 3 1;").nextDay(), 3);
        due("the rest: the wind stays", Check.siege(winds + "turn 0 1 5;turn 0 2 3;start 0;").nextDay(), 0);
        due("from the start wind", Check.siege(winds + "turn 0 1 10;turn 2 3 9;start 2;").nextDay(), 3);
    }

    private static void launchesDrawTheRegion() {
        String regions = "region 0 1 0;region 0 1 0;";
        dueRegion("8 is the rest", regions + "wind 0 8;", 1, -2);
        dueRegion("8 < 9", regions + "wind 0 9;", 3, 0);
        dueRegion("8 - 5 < 4", regions + "wind 1 5 0 4;", 3, 0);
        dueRegion("8 - 5 - 3", regions + "wind 1 5 0 3;", 1, -2);
        dueRegion("8 - 4 < 5", regions + "wind 0 4 1 5;", 3, 1);
        dueRegion("no region", regions + "wind;", 1, -2);
        dueRegion("the wind of the day", regions + "wind;wind 1 10;start 1;", 3, 1);
    }

    private static void dueRegion(String call, String text, int state, int region) {
        BalloonMail mail = Check.siege(text + "balloon 1 0;");
        due(call, mail.launch(0, 0), state);
        due(call + ", state", mail.balloonState(0), state);
        due(call + ", region", mail.balloonRegion(0), region);
    }

    private static void launchesDrawTheCapture() {
        due("8 < 9", Check.siege("region 9 1 0;wind 0 10;balloon 1 0;").launch(0, 0), 2);
        due("8 < 8", Check.siege("region 8 1 0;wind 0 10;balloon 1 0;").launch(0, 0), 3);
        due("risk 10", Check.siege("region 10 1 0;wind 0 10;balloon 1 0;").launch(0, 0), 2);
        due("risk 0", Check.siege("region 0 1 0;wind 0 10;balloon 1 0;").launch(0, 0), 3);
    }

    /** After the launch the wind tells how many draws there were: the next draw is the first one that is not. */
    private static void launchesDrawThePigeons() {
        String winds = "wind 0 9;wind;turn 0 1 1;balloon 1 4;";
        BalloonMail mail = Check.siege("region 8 1 5;" + winds);
        due("launch", mail.launch(0, 0), 3);
        due("of 3 5 1 7 two are less than 5", mail.pigeonsOnTheWay(), 2);
        due("pigeonsLost()", mail.pigeonsLost(), 2);
        due("the draw after six is 0", mail.nextDay(), 1);
        mail = Check.siege("region 8 1 6;" + winds);
        mail.launch(0, 0);
        due("of 3 5 1 7 three are less than 6", mail.pigeonsOnTheWay(), 3);
        mail = Check.siege("region 9 1 6;wind 0 9;wind;turn 0 1 4;balloon 1 4;");
        due("launch", mail.launch(0, 0), 2);
        due("the draw after a capture is 3", mail.nextDay(), 1);
        mail = Check.siege("region 9 1 6;wind 0 9;wind;turn 0 1 3;balloon 1 4;");
        mail.launch(0, 0);
        due("the draw after a capture is not 2", mail.nextDay(), 0);
        mail = Check.siege("region 9 1 6;wind 0 8;balloon 1 4;balloon 1 4;wind;turn 0 1 8;");
        due("launch", mail.launch(0, 0), 1);
        due("the draw after the sea is 8", mail.launch(1, 0), 1);
        due("and then 3", mail.nextDay(), 1);
    }

    /** 0 gives 12345 first, which is 0 above 65536; 9999 gives x = 9999 * 1103515245 + 12345. */
    private static void seeds() {
        due("seed 0 draws 0", Check.siege("wind;wind;turn 0 1 1;seed 0;").nextDay(), 1);
        long x = (9999L * 1103515245L + 12345L) & 0x7fffffffL;
        int draw = (int) ((x >> 16) % 10);
        String winds = "wind;wind;seed 9999;turn 0 1 ";
        due("seed 9999", Check.siege(winds + (draw + 1) + ";").nextDay(), 1);
        due("seed 9999", Check.siege(winds + draw + ";").nextDay(), 0);
    }

    private static void refusedLaunches() {
        BalloonMail mail = Check.siege("region 0 1 10;wind 0 10;balloon 5 1;balloon 5 2;balloon 5 2;"
                + "letter 5 1;letter 1 1;loft 2;");
        int[] wrongBalloons = {-1, -2, 3, Integer.MIN_VALUE, Integer.MAX_VALUE};
        for (int balloon : wrongBalloons) {
            due("launch(" + balloon + ", 0)", mail.launch(balloon, 0), -1);
        }
        int[] wrongSets = {4, 5, 1 << 24, Integer.MIN_VALUE, -1};
        for (int set : wrongSets) {
            due("launch(0, " + set + ")", mail.launch(0, set), -1);
        }
        due("launch(0, 3), too heavy", mail.launch(0, 3), -3);
        due("undoDepth() after refusals", mail.undoDepth(), 0);
        due("eventCount() after refusals", mail.eventCount(), 0);
        due("launch(0, 1) just fits", mail.launch(0, 1), 3);
        due("launch(0, 0), not ready", mail.launch(0, 0), -2);
        due("launch(1, 1), not waiting", mail.launch(1, 1), -2);
        due("launch(1, 2), no pigeons", mail.launch(1, 2), -4);
        due("pigeonsInLoft()", mail.pigeonsInLoft(), 1);
        due("balloonState(1)", mail.balloonState(1), 0);
        due("letterState(1)", mail.letterState(1), 0);
        due("undoDepth()", mail.undoDepth(), 1);
        mail.nextDay();
        due("launch(1, 2) with the pigeon that came back", mail.launch(1, 2), 3);
        due("launch(2, 1), answered", mail.launch(2, 1), -2);
    }

    private static void orderOfRefusals() {
        BalloonMail mail = Check.siege("region 0 1 10;wind 0 10;balloon 5 1;balloon 1 2;letter 5 1;letter 4 1;loft 1;");
        mail.launch(0, 1);
        due("INVALID before NONE", mail.launch(0, 4), -1);
        due("INVALID before NONE", mail.launch(2, 1), -1);
        due("NONE before TOO_HEAVY", mail.launch(1, 3), -2);
        due("TOO_HEAVY before NO_PIGEONS", mail.launch(1, 2), -3);
        due("NO_PIGEONS", mail.launch(1, 0), -4);
        due("NONE before NO_PIGEONS", mail.launch(0, 0), -2);
    }

    private static void launchWithoutWinds() {
        BalloonMail mail = Check.siege("balloon 5 1;letter 9 9;loft 0;");
        due("launch(0, 0)", mail.launch(0, 0), -2);
        due("launch(0, 1)", mail.launch(0, 1), -2);
        due("launch(0, 2)", mail.launch(0, 2), -1);
        due("launch(1, 0)", mail.launch(1, 0), -1);
        due("undoDepth()", mail.undoDepth(), 0);
    }

    private static void statesAndRegions() {
        BalloonMail mail = Check.siege("region 10 1 1;region 0 1 1;wind 1 10;wind 0 10;wind;turn 0 1 10;turn 1 2 10;"
                + "balloon 9 0;".repeat(4) + "letter 1 1;".repeat(5));
        due("balloonState(0)", mail.balloonState(0), 0);
        due("balloonRegion(0)", mail.balloonRegion(0), -2);
        due("cargo(0)", mail.cargo(0), 0);
        due("launch(2, 5)", mail.launch(2, 5), 3);
        mail.nextDay();
        due("launch(0, 2)", mail.launch(0, 2), 2);
        mail.nextDay();
        due("launch(3, 8)", mail.launch(3, 8), 1);
        int[] states = {2, 0, 3, 1};
        int[] regions = {0, -2, 1, -2};
        int[] cargos = {2, 0, 5, 8};
        for (int balloon = 0; balloon < 4; balloon++) {
            due("balloonState(" + balloon + ")", mail.balloonState(balloon), states[balloon]);
            due("balloonRegion(" + balloon + ")", mail.balloonRegion(balloon), regions[balloon]);
            due("cargo(" + balloon + ")", mail.cargo(balloon), cargos[balloon]);
        }
        int[] letters = {2, 1, 2, 1, 0};
        for (int letter = 0; letter < 5; letter++) {
            due("letterState(" + letter + ")", mail.letterState(letter), letters[letter]);
            due("answerDay(" + letter + ")", mail.answerDay(letter), -2);
        }
    }

    private static void answers() {
        BalloonMail mail = Check.siege("region 0 3 10;region 0 1 0;wind 0 10;wind 1 10;turn 0 1 10;"
                + "balloon 9 2;balloon 9 2;letter 1 1;letter 1 1;letter 1 1;letter 1 1;");
        mail.launch(0, 5);
        mail.nextDay();
        mail.launch(1, 2);
        mail.nextDay();
        due("letterState(0) before the answer", mail.letterState(0), 2);
        due("answerDay(0) before the answer", mail.answerDay(0), -2);
        mail.nextDay();
        mail.nextDay();
        due("letterState(0)", mail.letterState(0), 3);
        due("letterState(2)", mail.letterState(2), 3);
        due("answerDay(0)", mail.answerDay(0), 3);
        due("answerDay(2)", mail.answerDay(2), 3);
        due("letterState(1), no pigeon came back", mail.letterState(1), 2);
        due("answerDay(1)", mail.answerDay(1), -2);
        due("letterState(3), waiting", mail.letterState(3), 0);
        due("answerDay(3)", mail.answerDay(3), -2);
        due("balloonState(0) stays landed", mail.balloonState(0), 3);
        due("cargo(0) stays", mail.cargo(0), 5);
    }

    private static void numbersOutOfRange() {
        BalloonMail mail = Check.siege("wind;balloon 1 1;letter 1 1;");
        int[] wrong = {-1, -2, 1, 10, 24, Integer.MIN_VALUE, Integer.MAX_VALUE};
        for (int number : wrong) {
            due("balloonState(" + number + ")", mail.balloonState(number), -1);
            due("balloonRegion(" + number + ")", mail.balloonRegion(number), -1);
            due("cargo(" + number + ")", mail.cargo(number), -1);
            due("letterState(" + number + ")", mail.letterState(number), -1);
            due("answerDay(" + number + ")", mail.answerDay(number), -1);
        }
    }
}
