/** The boundaries of promises 33 to 39: the pigeons and the totals. */
public final class PigeonBoundsTest {
    /** Wind 0 leads to the sea, 1 to capture, 2 to a region nine days away, 3 to one a day away, one after another. */
    private static final String FOUR_WAYS = "region 10 1 10;region 0 9 10;region 0 1 10;"
            + "wind;wind 0 10;wind 1 10;wind 2 10;turn 0 1 10;turn 1 2 10;turn 2 3 10;";

    public static void main(String[] args) throws ReflectiveOperationException {
        Bounds.run(PigeonBoundsTest.class);
    }

    /** Four balloons of four pigeons are launched, each in another wind: lost, captured, far away, back on day 4. */
    private static BalloonMail fourLaunches() {
        BalloonMail mail = Check.siege(FOUR_WAYS + "balloon 9 4;".repeat(5) + "loft 16;"
                + "letter 1 9;letter 2 8;letter 4 7;letter 8 6;letter 16 5;");
        for (int balloon = 0; balloon < 4; balloon++) {
            mail.launch(balloon, 1 << balloon);
            if (balloon < 3) {
                mail.nextDay();
            }
        }
        return mail;
    }

    @Says(in = "Promise 33", value = "Returns the number of pigeons in the loft.")
    static void inLoft(Check check) {
        BalloonMail full = Check.siege("region 0 1 10;wind 0 10;" + "balloon 1 4;".repeat(10) + "loft 40;");
        for (int balloon = 0; balloon < 10; balloon++) {
            check.due("pigeonsInLoft()", full.pigeonsInLoft(), 40 - 4 * balloon);
            check.due("launch(" + balloon + ", 0)", full.launch(balloon, 0), 3);
        }
        check.due("pigeonsInLoft(), empty", full.pigeonsInLoft(), 0);
        full.nextDay();
        check.due("pigeonsInLoft(), full again", full.pigeonsInLoft(), 40);
        full.undo();
        check.due("pigeonsInLoft() after undo", full.pigeonsInLoft(), 0);
        BalloonMail mail = fourLaunches();
        check.due("pigeonsInLoft() of four launches", mail.pigeonsInLoft(), 0);
        mail.nextDay();
        check.due("pigeonsInLoft() after the first return", mail.pigeonsInLoft(), 4);
    }

    @Says(in = "Promise 34", value = "Returns the number of pigeons on their way back that will come back.")
    static void onTheWay(Check check) {
        check.due("pigeonsOnTheWay() of a new object", new BalloonMail().pigeonsOnTheWay(), 0);
        BalloonMail mail = fourLaunches();
        check.due("pigeonsOnTheWay()", mail.pigeonsOnTheWay(), 8);
        mail.nextDay();
        check.due("pigeonsOnTheWay() after the first return", mail.pigeonsOnTheWay(), 4);
        for (int day = 5; day <= 10; day++) {
            mail.nextDay();
        }
        check.due("pigeonsOnTheWay() on the day before the last return", mail.pigeonsOnTheWay(), 4);
        mail.nextDay();
        check.due("pigeonsOnTheWay() after the last return", mail.pigeonsOnTheWay(), 0);
        BalloonMail all = Check.siege("region 0 1 10;wind 0 10;" + "balloon 1 4;".repeat(10) + "loft 40;");
        for (int balloon = 0; balloon < 10; balloon++) {
            all.launch(balloon, 0);
        }
        check.due("all 40 on the way", all.pigeonsOnTheWay(), 40);
        BalloonMail lost = Check.siege("region 0 1 0;wind 0 10;balloon 1 4;");
        lost.launch(0, 0);
        check.due("those that will not come back", lost.pigeonsOnTheWay(), 0);
    }

    @Says(in = "Promise 35",
            value = "Returns the number of pigeons that are lost, counted as soon as their loss was drawn "
            + "or their balloon was captured or fell into the sea.")
    static void lost(Check check) {
        check.due("pigeonsLost() of a new object", new BalloonMail().pigeonsLost(), 0);
        check.due("pigeonsLost() of four launches", fourLaunches().pigeonsLost(), 8);
        BalloonMail drawn = Check.siege("region 0 9 0;wind 0 10;" + "balloon 1 4;".repeat(10) + "loft 40;");
        for (int balloon = 0; balloon < 10; balloon++) {
            check.due("pigeonsLost() before", drawn.pigeonsLost(), 4 * balloon);
            drawn.launch(balloon, 0);
        }
        check.due("pigeonsLost() on the day of the launches", drawn.pigeonsLost(), 40);
        check.due("pigeonsInLoft()", drawn.pigeonsInLoft(), 0);
        for (int day = 1; day <= 10; day++) {
            drawn.nextDay();
        }
        check.due("pigeonsLost() later", drawn.pigeonsLost(), 40);
        BalloonMail undone = Check.siege("wind;balloon 1 4;");
        undone.launch(0, 0);
        check.due("pigeonsLost() in the sea", undone.pigeonsLost(), 4);
        undone.undo();
        check.due("pigeonsLost() after undo", undone.pigeonsLost(), 0);
    }

    @Says(in = "Promise 36", value = {"Returns the day on which the next pigeon comes back.",
        "Returns the day; NONE if no pigeon is on its way."})
    static void nextReturns(Check check) {
        check.due("nextReturn() of a new object", new BalloonMail().nextReturn(), -2);
        BalloonMail mail = fourLaunches();
        check.due("nextReturn(), the later launch comes first", mail.nextReturn(), 4);
        mail.undo();
        check.due("nextReturn() after undo", mail.nextReturn(), 11);
        mail.launch(3, 0);
        mail.nextDay();
        check.due("nextReturn() after the first return", mail.nextReturn(), 11);
        for (int day = 5; day <= 10; day++) {
            mail.nextDay();
            check.due("nextReturn() on day " + day, mail.nextReturn(), 11);
        }
        mail.nextDay();
        check.due("nextReturn() after the last return", mail.nextReturn(), -2);
        BalloonMail last = Check.siege("region 0 9 10;region 0 2 10;wind 0 10;wind 1 10;turn 0 1 10;"
                + "balloon 1 1;".repeat(10) + "loft 10;");
        for (int balloon = 0; balloon < 9; balloon++) {
            last.launch(balloon, 0);
            check.due("nextReturn() of " + (balloon + 1), last.nextReturn(), 9);
        }
        last.nextDay();
        last.launch(9, 0);
        check.due("nextReturn() of the tenth balloon", last.nextReturn(), 3);
        BalloonMail none = Check.siege("region 0 1 0;wind 0 10;wind;turn 0 1 10;balloon 1 4;balloon 1 4;balloon 1 0;");
        none.launch(0, 0);
        check.due("nextReturn() if all are lost", none.nextReturn(), -2);
        none.launch(2, 0);
        check.due("nextReturn() of a balloon without pigeons", none.nextReturn(), -2);
        none.nextDay();
        none.launch(1, 0);
        check.due("nextReturn() out of the sea", none.nextReturn(), -2);
    }

    @Says(in = "Promise 37", value = {"Returns the total weight of the letters in a state.", "- `state`: 0 to 3"})
    static void weights(Check check) {
        BalloonMail mail = fourLaunches();
        mail.nextDay();
        int[] due = {16, 3, 4, 8};
        for (int state = 0; state <= 3; state++) {
            check.due("weightIn(" + state + ")", mail.weightIn(state), due[state]);
        }
        BalloonMail full = Check.siege("letter 99 1;".repeat(24));
        check.due("the greatest weight", full.weightIn(0), 2376);
        check.due("weightIn(3) of no letter", full.weightIn(3), 0);
    }

    @Says(in = "Promise 37", value = "Returns the weight; INVALID if state is out of range.")
    static void noSuchState(Check check) {
        BalloonMail mail = fourLaunches();
        Bounds.within(check, "weightIn", 0, 3, mail::weightIn);
        check.due("weightIn(-2)", mail.weightIn(-2), -1);
        check.due("weightIn(5)", mail.weightIn(5), -1);
        Bounds.within(check, "weightIn of the empty siege", 0, 3, new BalloonMail()::weightIn);
    }

    @Says(in = "Promise 38", value = "Returns the total priority of the answered letters.")
    static void answeredPriorities(Check check) {
        check.due("answeredPriority() of a new object", new BalloonMail().answeredPriority(), 0);
        BalloonMail mail = fourLaunches();
        check.due("answeredPriority() before the answer", mail.answeredPriority(), 0);
        mail.nextDay();
        check.due("answeredPriority() after the answer", mail.answeredPriority(), 6);
        BalloonMail full = Check.siege("region 0 1 10;wind 0 10;balloon 24 1;" + "letter 1 9;".repeat(24));
        full.launch(0, 0xffffff);
        check.due("answeredPriority() of delivered letters", full.answeredPriority(), 0);
        full.nextDay();
        check.due("the greatest priority", full.answeredPriority(), 216);
        full.undo();
        check.due("answeredPriority() after undo", full.answeredPriority(), 0);
    }

    @Says(in = "Promise 39",
            value = {"Returns the number of balloons that have come down in a region, captured or landed.",
        "Returns the number; INVALID if there is no such region."})
    static void balloons(Check check) {
        BalloonMail mail = fourLaunches();
        Bounds.within(check, "balloonsIn", 0, 2, mail::balloonsIn);
        check.due("balloonsIn(NONE), the sea is no region", mail.balloonsIn(-2), -1);
        for (int region = 0; region < 3; region++) {
            check.due("balloonsIn(" + region + ")", mail.balloonsIn(region), 1);
        }
        BalloonMail full = Check.siege("region 0 1 1;".repeat(8) + "wind 7 10;" + "balloon 1 0;".repeat(10));
        Bounds.within(check, "balloonsIn of eight regions", 0, 7, full::balloonsIn);
        for (int balloon = 0; balloon < 10; balloon++) {
            check.due("balloonsIn(7)", full.balloonsIn(7), balloon);
            full.launch(balloon, 0);
        }
        check.due("balloonsIn(7) of all", full.balloonsIn(7), 10);
        check.due("balloonsIn(0) of none", full.balloonsIn(0), 0);
        Bounds.never(check, "balloonsIn without regions", Check.siege("wind;balloon 1 1;")::balloonsIn);
    }
}
