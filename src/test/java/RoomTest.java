import java.lang.management.ManagementFactory;

/** All calls of a run live in one room: after the constructor nothing is made but the exceptions. */
public final class RoomTest {
    private static final String SIEGE = "region 2 3 5;region 0 9 9;wind 0 4 1 5;wind 1 8;turn 0 1 5;turn 1 0 5;"
            + "balloon 99 2;balloon 88 3;balloon 77 1;letter 5 3;letter 7 2;letter 9 9;loft 30;seed 77;";
    private static final int CALLS = 512;
    private static final long CONSTRUCTOR_BYTES = 150_000;

    public static void main(String[] args) {
        Check check = new Check("RoomTest");
        com.sun.management.ThreadMXBean threads =
                (com.sun.management.ThreadMXBean) ManagementFactory.getThreadMXBean();
        long id = Thread.currentThread().getId();
        BalloonMail mail = Check.siege(SIEGE);
        int[][] words = Check.words(SIEGE);
        int answers = callAll(mail, 0, words);
        long before = threads.getThreadAllocatedBytes(id);
        for (int k = 0; k < CALLS; k++) {
            answers += callAll(mail, k, words);
        }
        long made = threads.getThreadAllocatedBytes(id) - before;
        check.due("bytes made by " + CALLS + " rounds of calls (" + answers + "): " + made, made < 1000, true);
        before = threads.getThreadAllocatedBytes(id);
        BalloonMail other = new BalloonMail();
        made = threads.getThreadAllocatedBytes(id) - before;
        check.due("bytes made by the constructor: " + made, made < CONSTRUCTOR_BYTES, true);
        check.due("day() of a new object", other.day(), 0);
        check.finish();
    }

    private static int callAll(BalloonMail mail, int k, int[][] words) {
        long sum = 0;
        if (k % 10 == 0) {
            for (int[] w : words) {
                sum += mail.append(w[0], w[1], w[2], w[3], w[4]);
            }
            sum += mail.parse(k % 20 == 0 ? SIEGE.length() : SIEGE.length() - 1);
        }
        sum += mail.errorPosition() + mail.regionCount() + mail.windCount() + mail.balloonCount();
        sum += mail.letterCount() + mail.capacity(k % 4) + mail.letterWeight(k % 4);
        sum += mail.windChance(k % 3, k % 9) + mail.avoidChance(k % 3, k % 9) + mail.landingChance(k % 3, k % 9);
        sum += mail.deliveryChance(k % 9) + mail.answerChance(k % 5, k % 9) + mail.answerPermille(k % 5, k % 9);
        sum += mail.bestDay(k % 5) + mail.assignmentTotal() + mail.assignedDay(k % 4) + mail.bestLoad(k % 4);
        sum += mail.weightOf(k % 9) + mail.priorityOf(k % 9) + mail.lettersIn(k % 5) + mail.day() + mail.wind();
        sum += mail.launch(k % 4, k % 9) + mail.nextDay() + mail.balloonState(k % 4) + mail.balloonRegion(k % 4);
        sum += mail.cargo(k % 4) + mail.letterState(k % 4) + mail.answerDay(k % 4) + mail.pigeonsInLoft();
        sum += mail.pigeonsOnTheWay() + mail.pigeonsLost() + mail.nextReturn() + mail.weightIn(k % 5);
        sum += mail.answeredPriority() + mail.balloonsIn(k % 3) + mail.eventCount() + mail.undoDepth();
        for (int index = 0; index < mail.eventCount(); index++) {
            sum += mail.eventKind(index) + mail.eventNumber(index) + mail.eventDay(index);
        }
        sum += k % 3 == 0 && mail.undo() ? 1 : 0;
        sum += k % 7 == 0 && mail.saveSnapshot(k % 2) ? 1 : 0;
        sum += k % 11 == 0 && mail.restoreSnapshot(k % 2) ? 1 : 0;
        return (int) sum;
    }
}
