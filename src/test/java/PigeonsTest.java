/** Promises 33 to 39: the pigeons, and the totals of letters and balloons. */
public final class PigeonsTest {
    /** Each region is reached surely by the wind of its number: 0 far, 1 near, 2 captures, 3 loses all pigeons. */
    private static final String REGIONS = "region 0 4 10;region 0 1 10;region 10 1 10;region 0 1 0;";
    private static final String WINDS = "wind 0 10;wind 1 10;wind 2 10;wind 3 10;wind;"
            + "turn 0 1 10;turn 1 2 10;turn 2 3 10;turn 3 4 10;turn 4 0 10;";

    private static final Check CHECK = new Check("PigeonsTest");

    public static void main(String[] args) {
        loft();
        waysOfPigeons();
        returnsOnTheSameDay();
        totals();
        balloonsInRegions();
        CHECK.finish();
    }

    private static void due(String call, long got, long want) {
        CHECK.due(call, got, want);
    }

    private static void duePigeons(BalloonMail mail, int loft, int away, int lost, int next) {
        String where = " on day " + mail.day();
        due("pigeonsInLoft()" + where, mail.pigeonsInLoft(), loft);
        due("pigeonsOnTheWay()" + where, mail.pigeonsOnTheWay(), away);
        due("pigeonsLost()" + where, mail.pigeonsLost(), lost);
        due("nextReturn()" + where, mail.nextReturn(), next);
    }

    private static void loft() {
        due("pigeonsInLoft() without loft", Check.siege("wind;").pigeonsInLoft(), 8);
        due("pigeonsInLoft() of 0", Check.siege("loft 0;").pigeonsInLoft(), 0);
        due("pigeonsInLoft() of 40", Check.siege("loft 40;").pigeonsInLoft(), 40);
    }

    private static void waysOfPigeons() {
        BalloonMail mail = Check.siege(REGIONS + WINDS + "loft 20;"
                + "balloon 9 3;balloon 9 2;balloon 9 4;balloon 9 1;balloon 9 3;balloon 9 0;");
        duePigeons(mail, 20, 0, 0, -2);
        due("launch(0, 0)", mail.launch(0, 0), 3);
        duePigeons(mail, 17, 3, 0, 4);
        mail.nextDay();
        due("launch(1, 0)", mail.launch(1, 0), 3);
        duePigeons(mail, 15, 5, 0, 2);
        mail.nextDay();
        duePigeons(mail, 17, 3, 0, 4);
        due("launch(2, 0)", mail.launch(2, 0), 2);
        duePigeons(mail, 13, 3, 4, 4);
        mail.nextDay();
        due("launch(3, 0)", mail.launch(3, 0), 3);
        duePigeons(mail, 12, 3, 5, 4);
        mail.nextDay();
        duePigeons(mail, 15, 0, 5, -2);
        due("launch(4, 0)", mail.launch(4, 0), 1);
        duePigeons(mail, 12, 0, 8, -2);
        mail.nextDay();
        due("launch(5, 0)", mail.launch(5, 0), 3);
        duePigeons(mail, 12, 0, 8, -2);
        for (int day = 0; day < 9; day++) {
            mail.nextDay();
        }
        duePigeons(mail, 12, 0, 8, -2);
    }

    /** The pigeons of the balloon that was launched first come first, whatever its number. */
    private static void returnsOnTheSameDay() {
        BalloonMail mail = Check.siege("region 0 2 10;region 0 1 10;wind 0 10;wind 1 10;turn 0 1 10;"
                + "balloon 9 1;balloon 9 2;balloon 9 1;letter 2 3;letter 4 5;letter 8 1;");
        mail.launch(1, 2);
        mail.launch(2, 4);
        mail.nextDay();
        mail.launch(0, 1);
        duePigeons(mail, 4, 4, 0, 2);
        due("eventCount()", mail.eventCount(), 4);
        mail.nextDay();
        duePigeons(mail, 8, 0, 0, -2);
        due("eventCount()", mail.eventCount(), 8);
        int[] order = {1, 1, 2, 0};
        for (int k = 0; k < 4; k++) {
            due("eventKind", mail.eventKind(4 + k), 4);
            due("eventNumber", mail.eventNumber(4 + k), order[k]);
            due("eventDay", mail.eventDay(4 + k), 2);
        }
        for (int letter = 0; letter < 3; letter++) {
            due("answerDay(" + letter + ")", mail.answerDay(letter), 2);
        }
    }

    private static void totals() {
        BalloonMail mail = Check.siege(REGIONS + WINDS + "start 1;balloon 999 1;balloon 999 1;balloon 999 1;balloon 999 1;"
                + "letter 1 9;letter 2 8;letter 4 7;letter 8 6;letter 16 5;letter 32 4;letter 64 3;");
        due("weightIn(0)", mail.weightIn(0), 127);
        due("answeredPriority()", mail.answeredPriority(), 0);
        mail.launch(0, 3);
        due("weightIn(2)", mail.weightIn(2), 3);
        due("answeredPriority() before the answer", mail.answeredPriority(), 0);
        mail.nextDay();
        mail.launch(1, 4);
        mail.nextDay();
        mail.launch(2, 8 + 16);
        mail.nextDay();
        mail.launch(3, 32);
        due("weightIn(0)", mail.weightIn(0), 64);
        due("weightIn(1)", mail.weightIn(1), 4 + 32);
        due("weightIn(2)", mail.weightIn(2), 8 + 16);
        due("weightIn(3)", mail.weightIn(3), 3);
        due("answeredPriority()", mail.answeredPriority(), 17);
        int[] wrong = {-1, -2, 4, Integer.MIN_VALUE, Integer.MAX_VALUE};
        for (int state : wrong) {
            due("weightIn(" + state + ")", mail.weightIn(state), -1);
        }
    }

    private static void balloonsInRegions() {
        BalloonMail mail = Check.siege(REGIONS + WINDS + "start 1;loft 0;" + "balloon 9 0;".repeat(6));
        for (int region = 0; region < 4; region++) {
            due("balloonsIn(" + region + ")", mail.balloonsIn(region), 0);
        }
        mail.launch(5, 0);
        mail.launch(0, 0);
        mail.nextDay();
        mail.launch(3, 0);
        mail.nextDay();
        mail.nextDay();
        mail.launch(1, 0);
        due("balloonState(1)", mail.balloonState(1), 1);
        due("balloonsIn(0)", mail.balloonsIn(0), 0);
        due("balloonsIn(1), landed", mail.balloonsIn(1), 2);
        due("balloonsIn(2), captured", mail.balloonsIn(2), 1);
        due("balloonsIn(3)", mail.balloonsIn(3), 0);
        int[] wrong = {-1, -2, 4, 8, Integer.MIN_VALUE, Integer.MAX_VALUE};
        for (int region : wrong) {
            due("balloonsIn(" + region + ")", mail.balloonsIn(region), -1);
        }
    }
}
