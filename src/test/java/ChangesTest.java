/** Promises 40 to 47: the journal, undo and the snapshots. */
public final class ChangesTest {
    private static final String ALTERNATING = "region 0 2 10;wind 0 10;wind;turn 0 1 10;turn 1 0 10;";

    private static final Check CHECK = new Check("ChangesTest");

    public static void main(String[] args) {
        eventsOfLaunches();
        eventsOfDays();
        latestEvents();
        droppedEventsOfEachKind();
        wrongEvents();
        undoLaunch();
        undoDay();
        undoneChangesLeaveNothing();
        undoRestoresTheDraws();
        undoDepths();
        undoRestoresDroppedEvents();
        undoWithoutWinds();
        snapshots();
        snapshotSlots();
        snapshotsHoldEverything();
        snapshotsHoldTheOrderOfLaunches();
        snapshotsAndUndo();
        CHECK.finish();
    }

    private static void due(String call, long got, long want) {
        CHECK.due(call, got, want);
    }

    private static void dueEvent(BalloonMail mail, int index, int kind, int number, int day) {
        due("eventKind(" + index + ")", mail.eventKind(index), kind);
        due("eventNumber(" + index + ")", mail.eventNumber(index), number);
        due("eventDay(" + index + ")", mail.eventDay(index), day);
    }

    private static void eventsOfLaunches() {
        BalloonMail mail = Check.siege("region 0 1 0;region 10 1 0;wind 0 10;wind 1 10;wind;"
                + "turn 0 1 10;turn 1 2 10;" + "balloon 1 1;".repeat(3));
        due("eventCount()", mail.eventCount(), 0);
        mail.launch(2, 0);
        mail.nextDay();
        mail.launch(0, 0);
        mail.nextDay();
        mail.launch(1, 0);
        mail.nextDay();
        due("eventCount()", mail.eventCount(), 5);
        dueEvent(mail, 0, 3, 2, 0);
        dueEvent(mail, 1, 5, 1, 1);
        dueEvent(mail, 2, 2, 0, 1);
        dueEvent(mail, 3, 5, 2, 2);
        dueEvent(mail, 4, 1, 1, 2);
    }

    /** The wind first, then the pigeons; no event for a wind that stays or a pigeon that is lost. */
    private static void eventsOfDays() {
        BalloonMail mail = Check.siege(ALTERNATING + "balloon 1 2;balloon 1 1;");
        mail.launch(1, 0);
        mail.launch(0, 0);
        mail.nextDay();
        mail.nextDay();
        due("eventCount()", mail.eventCount(), 7);
        dueEvent(mail, 2, 5, 1, 1);
        dueEvent(mail, 3, 5, 0, 2);
        dueEvent(mail, 4, 4, 1, 2);
        dueEvent(mail, 5, 4, 0, 2);
        dueEvent(mail, 6, 4, 0, 2);
        BalloonMail steady = Check.siege("region 0 1 0;wind 0 10;wind;balloon 1 4;");
        steady.launch(0, 0);
        steady.nextDay();
        steady.nextDay();
        due("eventCount() of a steady wind", steady.eventCount(), 1);
    }

    private static void latestEvents() {
        BalloonMail mail = Check.siege(ALTERNATING + "balloon 1 0;");
        for (int day = 1; day <= 16; day++) {
            mail.nextDay();
            due("eventCount()", mail.eventCount(), day);
        }
        dueEvent(mail, 0, 5, 1, 1);
        dueEvent(mail, 15, 5, 0, 16);
        mail.launch(0, 0);
        due("eventCount()", mail.eventCount(), 16);
        dueEvent(mail, 0, 5, 0, 2);
        dueEvent(mail, 14, 5, 0, 16);
        dueEvent(mail, 15, 3, 0, 16);
    }

    /** The events of each kind keep what belongs together while older ones are dropped. */
    private static void droppedEventsOfEachKind() {
        BalloonMail mail = Check.siege(ALTERNATING + "balloon 1 2;".repeat(4));
        for (int day = 0; day < 8; day += 2) {
            mail.launch(3 - day / 2, 0);
            mail.nextDay();
            mail.nextDay();
        }
        mail.nextDay();
        mail.nextDay();
        mail.nextDay();
        int[][] due = {{5, 0, 4}, {4, 2, 4}, {4, 2, 4}, {3, 1, 4}, {5, 1, 5}, {5, 0, 6}, {4, 1, 6}, {4, 1, 6},
            {3, 0, 6}, {5, 1, 7}, {5, 0, 8}, {4, 0, 8}, {4, 0, 8}, {5, 1, 9}, {5, 0, 10}, {5, 1, 11}};
        due("eventCount()", mail.eventCount(), 16);
        for (int index = 0; index < 16; index++) {
            dueEvent(mail, index, due[index][0], due[index][1], due[index][2]);
        }
    }

    private static void wrongEvents() {
        BalloonMail mail = Check.siege(ALTERNATING);
        dueNoEvent(mail, 0);
        mail.nextDay();
        dueEvent(mail, 0, 5, 1, 1);
        int[] wrong = {-1, 1, 15, 16, Integer.MIN_VALUE, Integer.MAX_VALUE};
        for (int index : wrong) {
            dueNoEvent(mail, index);
        }
        for (int day = 0; day < 20; day++) {
            mail.nextDay();
        }
        dueNoEvent(mail, 16);
        dueNoEvent(mail, -1);
        dueNoEvent(new BalloonMail(), 0);
    }

    private static void dueNoEvent(BalloonMail mail, int index) {
        CHECK.dueThrows("eventKind(" + index + ")", () -> mail.eventKind(index));
        CHECK.dueThrows("eventNumber(" + index + ")", () -> mail.eventNumber(index));
        CHECK.dueThrows("eventDay(" + index + ")", () -> mail.eventDay(index));
    }

    private static void undoLaunch() {
        BalloonMail mail = Check.siege(ALTERNATING + "balloon 5 2;letter 1 1;letter 2 2;loft 3;");
        CHECK.due("undo() of nothing", mail.undo(), false);
        mail.launch(0, 3);
        CHECK.due("undo()", mail.undo(), true);
        due("balloonState(0)", mail.balloonState(0), 0);
        due("balloonRegion(0)", mail.balloonRegion(0), -2);
        due("balloonsIn(0)", mail.balloonsIn(0), 0);
        due("cargo(0)", mail.cargo(0), 0);
        due("lettersIn(0)", mail.lettersIn(0), 3);
        due("lettersIn(2)", mail.lettersIn(2), 0);
        due("pigeonsInLoft()", mail.pigeonsInLoft(), 3);
        due("pigeonsOnTheWay()", mail.pigeonsOnTheWay(), 0);
        due("nextReturn()", mail.nextReturn(), -2);
        due("eventCount()", mail.eventCount(), 0);
        due("undoDepth()", mail.undoDepth(), 0);
        CHECK.due("undo() again", mail.undo(), false);
    }

    private static void undoDay() {
        BalloonMail mail = Check.siege(ALTERNATING + "balloon 5 2;letter 1 1;letter 2 2;loft 3;");
        mail.launch(0, 3);
        mail.nextDay();
        mail.nextDay();
        due("lettersIn(3)", mail.lettersIn(3), 3);
        due("pigeonsInLoft()", mail.pigeonsInLoft(), 3);
        CHECK.due("undo()", mail.undo(), true);
        due("day()", mail.day(), 1);
        due("wind()", mail.wind(), 1);
        due("lettersIn(2)", mail.lettersIn(2), 3);
        due("lettersIn(3)", mail.lettersIn(3), 0);
        due("answerDay(0)", mail.answerDay(0), -2);
        due("answeredPriority()", mail.answeredPriority(), 0);
        due("pigeonsInLoft()", mail.pigeonsInLoft(), 1);
        due("pigeonsOnTheWay()", mail.pigeonsOnTheWay(), 2);
        due("nextReturn()", mail.nextReturn(), 2);
        due("eventCount()", mail.eventCount(), 2);
        due("nextDay() once more", mail.nextDay(), 0);
        due("answerDay(0)", mail.answerDay(0), 2);
    }

    /** What a change would have left is all taken back: other changes follow in its place. */
    private static void undoneChangesLeaveNothing() {
        BalloonMail mail = Check.siege("region 0 3 10;region 0 1 10;region 10 1 1;wind 0 10;wind 1 10;wind 2 10;"
                + "turn 0 1 10;turn 1 2 10;balloon 5 1;balloon 5 1;balloon 5 4;letter 1 1;letter 2 2;");
        mail.launch(0, 1);
        mail.undo();
        mail.nextDay();
        mail.launch(1, 2);
        mail.launch(0, 1);
        due("nextReturn()", mail.nextReturn(), 2);
        mail.nextDay();
        due("eventCount()", mail.eventCount(), 6);
        dueEvent(mail, 0, 5, 1, 1);
        dueEvent(mail, 1, 3, 1, 1);
        dueEvent(mail, 2, 3, 0, 1);
        dueEvent(mail, 3, 5, 2, 2);
        dueEvent(mail, 4, 4, 1, 2);
        dueEvent(mail, 5, 4, 0, 2);
        due("launch(2, 0)", mail.launch(2, 0), 2);
        due("pigeonsLost()", mail.pigeonsLost(), 4);
        mail.undo();
        due("pigeonsLost() after undo", mail.pigeonsLost(), 0);
        for (int k = 0; k < 4; k++) {
            mail.undo();
        }
        due("day()", mail.day(), 0);
        for (int round = 0; round < 15; round++) {
            due("launch(0, 1)", mail.launch(0, 1), 3);
            due("nextReturn()", mail.nextReturn(), 3);
            mail.undo();
            due("nextReturn() after undo", mail.nextReturn(), -2);
        }
    }

    /** From the seed 1 the draws are 8 8 3 5 1 7 0 9 2 6. */
    private static void undoRestoresTheDraws() {
        BalloonMail mail = Check.siege("wind;wind;turn 0 1 5;turn 1 0 5;");
        int[] winds = {0, 0, 1, 1, 0, 0, 1, 1, 0, 0};
        for (int k = 0; k < 10; k++) {
            due("nextDay()", mail.nextDay(), winds[k]);
            CHECK.due("undo()", mail.undo(), true);
            due("nextDay() after undo", mail.nextDay(), winds[k]);
        }
        for (int k = 9; k > 0; k--) {
            mail.undo();
            due("wind() after undo", mail.wind(), winds[k - 1]);
        }
        for (int k = 1; k < 10; k++) {
            due("nextDay() after all undos", mail.nextDay(), winds[k]);
        }
    }

    private static void undoDepths() {
        BalloonMail mail = Check.siege(ALTERNATING + "balloon 5 0;");
        for (int change = 1; change <= 20; change++) {
            mail.nextDay();
            due("undoDepth()", mail.undoDepth(), Math.min(12, change));
        }
        due("a refused launch", mail.launch(1, 0), -1);
        due("undoDepth() after a refused launch", mail.undoDepth(), 12);
        for (int depth = 11; depth >= 5; depth--) {
            CHECK.due("undo()", mail.undo(), true);
            due("undoDepth()", mail.undoDepth(), depth);
        }
        due("day()", mail.day(), 13);
        mail.launch(0, 0);
        due("undoDepth() after a launch", mail.undoDepth(), 6);
        for (int k = 0; k < 6; k++) {
            CHECK.due("undo()", mail.undo(), true);
        }
        due("day() of the oldest change", mail.day(), 8);
        CHECK.due("undo() beyond 12", mail.undo(), false);
        due("day() stays", mail.day(), 8);
    }

    private static void undoRestoresDroppedEvents() {
        BalloonMail mail = Check.siege(ALTERNATING);
        for (int day = 1; day <= 20; day++) {
            mail.nextDay();
        }
        dueEvent(mail, 0, 5, 1, 5);
        mail.undo();
        mail.undo();
        due("eventCount()", mail.eventCount(), 16);
        dueEvent(mail, 0, 5, 1, 3);
        dueEvent(mail, 15, 5, 0, 18);
    }

    private static void undoWithoutWinds() {
        BalloonMail mail = new BalloonMail();
        mail.nextDay();
        mail.nextDay();
        due("undoDepth()", mail.undoDepth(), 2);
        CHECK.due("undo()", mail.undo(), true);
        due("day()", mail.day(), 1);
    }

    private static void snapshots() {
        BalloonMail mail = Check.siege(ALTERNATING);
        CHECK.due("restoreSnapshot(0) of an empty slot", mail.restoreSnapshot(0), false);
        mail.nextDay();
        CHECK.due("saveSnapshot(0)", mail.saveSnapshot(0), true);
        due("undoDepth() after saving", mail.undoDepth(), 1);
        mail.nextDay();
        CHECK.due("restoreSnapshot(1) of an empty slot", mail.restoreSnapshot(1), false);
        due("day() after a failed restore", mail.day(), 2);
        due("undoDepth() after a failed restore", mail.undoDepth(), 2);
        CHECK.due("saveSnapshot(1)", mail.saveSnapshot(1), true);
        mail.nextDay();
        CHECK.due("restoreSnapshot(0)", mail.restoreSnapshot(0), true);
        due("day()", mail.day(), 1);
        due("undoDepth() after a restore", mail.undoDepth(), 0);
        CHECK.due("undo() after a restore", mail.undo(), false);
        mail.nextDay();
        mail.nextDay();
        CHECK.due("restoreSnapshot(0), it stays stored", mail.restoreSnapshot(0), true);
        due("day()", mail.day(), 1);
        CHECK.due("restoreSnapshot(1)", mail.restoreSnapshot(1), true);
        due("day()", mail.day(), 2);
        CHECK.due("saveSnapshot(0) in place of the earlier one", mail.saveSnapshot(0), true);
        mail.nextDay();
        CHECK.due("restoreSnapshot(0)", mail.restoreSnapshot(0), true);
        due("day()", mail.day(), 2);
    }

    private static void snapshotSlots() {
        BalloonMail mail = Check.siege(ALTERNATING);
        mail.nextDay();
        int[] wrong = {-1, -2, 2, 12, Integer.MIN_VALUE, Integer.MAX_VALUE};
        for (int slot : wrong) {
            CHECK.due("saveSnapshot(" + slot + ")", mail.saveSnapshot(slot), false);
            CHECK.due("restoreSnapshot(" + slot + ")", mail.restoreSnapshot(slot), false);
        }
        due("undoDepth()", mail.undoDepth(), 1);
        CHECK.due("restoreSnapshot(0)", mail.restoreSnapshot(0), false);
        CHECK.due("restoreSnapshot(1)", mail.restoreSnapshot(1), false);
    }

    /** From the seed 1 the draws are 8 8 3 5 1 7 0 9 2 6. */
    private static void snapshotsHoldEverything() {
        BalloonMail mail = Check.siege("region 8 2 5;wind 0 9;wind;turn 0 1 1;balloon 5 4;balloon 5 0;"
                + "letter 1 1;letter 2 2;");
        mail.launch(0, 2);
        mail.saveSnapshot(1);
        for (int round = 0; round < 2; round++) {
            due("pigeonsLost()", mail.pigeonsLost(), 2);
            due("pigeonsInLoft()", mail.pigeonsInLoft(), 4);
            due("pigeonsOnTheWay()", mail.pigeonsOnTheWay(), 2);
            due("nextReturn()", mail.nextReturn(), 2);
            due("eventCount()", mail.eventCount(), 1);
            dueEvent(mail, 0, 3, 0, 0);
            due("lettersIn(0)", mail.lettersIn(0), 1);
            due("lettersIn(2)", mail.lettersIn(2), 2);
            due("answerDay(1)", mail.answerDay(1), -2);
            due("balloonState(0)", mail.balloonState(0), 3);
            due("balloonState(1)", mail.balloonState(1), 0);
            due("wind()", mail.wind(), 0);
            due("nextDay() draws 0", mail.nextDay(), 1);
            due("launch(1, 1) draws 9", mail.launch(1, 1), 1);
            mail.nextDay();
            due("answerDay(1)", mail.answerDay(1), 2);
            due("eventCount()", mail.eventCount(), 5);
            CHECK.due("restoreSnapshot(1)", mail.restoreSnapshot(1), true);
        }
    }

    /** The snapshot knows which balloons flew in which order, and when their pigeons come back. */
    private static void snapshotsHoldTheOrderOfLaunches() {
        BalloonMail mail = Check.siege("region 0 3 10;region 0 2 10;wind 0 10;wind 1 10;turn 0 1 10;"
                + "balloon 5 1;balloon 5 1;balloon 5 1;loft 3;");
        mail.saveSnapshot(1);
        mail.launch(2, 0);
        mail.nextDay();
        mail.launch(1, 0);
        mail.saveSnapshot(0);
        CHECK.due("restoreSnapshot(1)", mail.restoreSnapshot(1), true);
        mail.launch(0, 0);
        mail.launch(1, 0);
        mail.nextDay();
        mail.nextDay();
        mail.launch(2, 0);
        CHECK.due("restoreSnapshot(0)", mail.restoreSnapshot(0), true);
        due("pigeonsOnTheWay()", mail.pigeonsOnTheWay(), 2);
        due("nextReturn()", mail.nextReturn(), 3);
        mail.nextDay();
        due("pigeonsInLoft()", mail.pigeonsInLoft(), 1);
        mail.nextDay();
        due("pigeonsInLoft()", mail.pigeonsInLoft(), 3);
        due("eventCount()", mail.eventCount(), 5);
        dueEvent(mail, 0, 3, 2, 0);
        dueEvent(mail, 1, 5, 1, 1);
        dueEvent(mail, 2, 3, 1, 1);
        dueEvent(mail, 3, 4, 2, 3);
        dueEvent(mail, 4, 4, 1, 3);
    }

    private static void snapshotsAndUndo() {
        BalloonMail mail = Check.siege(ALTERNATING);
        mail.nextDay();
        mail.saveSnapshot(0);
        mail.undo();
        due("day() after undo", mail.day(), 0);
        CHECK.due("restoreSnapshot(0) after undo", mail.restoreSnapshot(0), true);
        due("day()", mail.day(), 1);
        mail.nextDay();
        due("undoDepth()", mail.undoDepth(), 1);
        CHECK.due("undo() back to the snapshot", mail.undo(), true);
        due("day()", mail.day(), 1);
        CHECK.due("undo() before the snapshot", mail.undo(), false);
    }
}
