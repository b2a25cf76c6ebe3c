import java.util.function.Supplier;

/** The boundaries of promises 24 to 32: days, draws, launches, and what becomes of balloons and letters. */
public final class FlightBoundsTest {
    private static final String GOOD = "region 0 2 10;wind 0 10;";

    public static void main(String[] args) throws ReflectiveOperationException {
        Bounds.run(FlightBoundsTest.class);
    }

    // ---- draws

    @Says(in = "DRAWS", value = "Draws come from a state x, which is the number of seed at first.")
    static void firstDraws(Check check) {
        for (int seed = 0; seed <= 9999; seed += 99) {
            int draw = Bounds.draws(seed, 1)[0];
            String text = "wind;wind;seed " + seed + ";turn 0 1 ";
            check.due("the first draw is less than the next number", Check.siege(text + (draw + 1) + ";").nextDay(), 1);
            if (draw > 0) {
                check.due("the first draw is not less than itself", Check.siege(text + draw + ";").nextDay(), 0);
            }
        }
    }

    @Says(in = "DRAWS", value = "A draw replaces x by (x * 1103515245 + 12345) modulo 2147483648, "
            + "computed without overflow, and gives the number x / 65536, rounded down, modulo 10.")
    static void draws(Check check) {
        String winds = "wind;wind;turn 0 1 5;turn 1 0 5;";
        int[] seeds = {0, 1, 2, 4999, 9998, 9999};
        for (int seed : seeds) {
            BalloonMail mail = Check.siege(winds + "seed " + seed + ";");
            int wind = 0;
            for (int draw : Bounds.draws(seed, 400)) {
                wind = draw < 5 ? 1 - wind : wind;
                check.due("nextDay() from the seed " + seed, mail.nextDay(), wind);
            }
        }
    }

    @Says(in = "DRAWS",
            value = "To choose by weights with a draw g means: the weights are passed through in the order of "
            + "their declaration, and each is subtracted from g until g is less than a weight, which is chosen; "
            + "if none is, the rest is chosen.")
    static void choices(Check check) {
        int[] winds = {2, 2, 1, 1, 1, 3, 0, 0, 0, 0};
        int[] regions = {1, 1, 1, 0, 2, 2, 2, 2, -2, -2};
        for (int draw = 0; draw <= 9; draw++) {
            BalloonMail mail = Check.siege("wind;".repeat(4) + "turn 0 2 2;turn 1 3 9;turn 0 1 3;turn 0 3 1;"
                    + Bounds.seed(draw));
            check.due("nextDay() with the draw " + draw, mail.nextDay(), winds[draw]);
            mail = Check.siege("region 0 1 0;".repeat(3) + "wind 1 3 0 1 2 4;wind 0 10;balloon 1 0;"
                    + Bounds.seed(draw));
            mail.launch(0, 0);
            check.due("balloonRegion(0) with the draw " + draw, mail.balloonRegion(0), regions[draw]);
        }
    }

    @Says(in = "DRAWS",
            value = "nextDay draws once and chooses the next wind by the weights of the turns from the present "
            + "wind (the rest: the wind stays).")
    static void drawsOfDays(Check check) {
        for (int weight = 1; weight <= 10; weight++) {
            for (int draw = 0; draw <= 9; draw++) {
                BalloonMail mail = Check.siege("wind;wind;turn 0 1 " + weight + ";" + Bounds.seed(draw));
                check.due("turn of " + weight + " with the draw " + draw, mail.nextDay(), draw < weight ? 1 : 0);
            }
        }
        // a day without turns draws too: the second draw decides on the launch
        BalloonMail mail = Check.siege("region 0 1 0;wind 0 5;balloon 1 0;" + Bounds.seed(0, 9));
        check.due("nextDay() without turns", mail.nextDay(), 0);
        check.due("launch(0, 0)", mail.launch(0, 0), 1);
    }

    @Says(in = "DRAWS",
            value = "launch draws once and chooses the region by the weights of the present wind (the rest: the sea).")
    static void drawsOfRegions(Check check) {
        for (int weight = 1; weight <= 10; weight++) {
            for (int draw = 0; draw <= 9; draw++) {
                BalloonMail mail = Check.siege("region 0 1 0;wind 0 " + weight + ";balloon 1 4;" + Bounds.seed(draw));
                check.due("region of " + weight + " with the draw " + draw, mail.launch(0, 0), draw < weight ? 3 : 1);
            }
        }
        // in the sea there is no second draw: the next one turns the wind
        BalloonMail mail = Check.siege("region 9 1 9;wind;wind;turn 0 1 5;balloon 1 4;" + Bounds.seed(9, 4, 9));
        check.due("launch(0, 0)", mail.launch(0, 0), 1);
        check.due("nextDay() with the second draw", mail.nextDay(), 1);
    }

    @Says(in = "DRAWS",
            value = "If a region is chosen, launch draws once more, and the balloon is captured if the draw is less than risk.")
    static void drawsOfCaptures(Check check) {
        for (int risk = 0; risk <= 10; risk++) {
            for (int draw = 0; draw <= 9; draw++) {
                BalloonMail mail = Check.siege("region " + risk + " 1 0;wind 0 10;balloon 1 0;" + Bounds.seed(5, draw));
                check.due("risk " + risk + " with the draw " + draw, mail.launch(0, 0), draw < risk ? 2 : 3);
            }
        }
        // a captured balloon draws for no pigeon: the third draw turns the wind
        BalloonMail mail = Check.siege("region 9 1 9;wind 0 10;wind;turn 0 1 5;balloon 1 4;" + Bounds.seed(9, 0, 4));
        check.due("launch(0, 0)", mail.launch(0, 0), 2);
        check.due("nextDay() with the third draw", mail.nextDay(), 1);
    }

    @Says(in = "DRAWS",
            value = "Otherwise it draws once for each pigeon, which comes back if the draw is less than return.")
    static void drawsOfPigeons(Check check) {
        for (int comeback = 0; comeback <= 10; comeback++) {
            for (int pigeons = 0; pigeons <= 4; pigeons++) {
                dueReturns(check, comeback, pigeons);
            }
        }
    }

    private static void dueReturns(Check check, int comeback, int pigeons) {
        String text = "region 0 1 " + comeback + ";wind 0 10;wind;turn 0 1 5;balloon 1 " + pigeons + ";";
        for (int seed = 1000; seed < 1010; seed++) {
            int[] draws = Bounds.draws(seed, 3 + pigeons);
            int back = 0;
            for (int k = 0; k < pigeons; k++) {
                back += draws[2 + k] < comeback ? 1 : 0;
            }
            BalloonMail mail = Check.siege(text + "seed " + seed + ";");
            check.due("launch(0, 0)", mail.launch(0, 0), 3);
            check.due("pigeonsOnTheWay() with return " + comeback, mail.pigeonsOnTheWay(), back);
            check.due("pigeonsLost() with return " + comeback, mail.pigeonsLost(), pigeons - back);
            check.due("nextDay() with the draw after the pigeons", mail.nextDay(), draws[2 + pigeons] < 5 ? 1 : 0);
        }
    }

    // ---- balloons and pigeons

    @Says(in = "BALLOONS AND PIGEONS",
            value = "A balloon that comes down in a region is captured with the chance risk (in tenths) of that region.")
    static void risks(Check check) {
        for (int seed = 0; seed < 40; seed++) {
            BalloonMail mail = Check.siege("region 0 1 0;region 10 1 10;wind 0 10;wind 1 10;turn 0 1 10;"
                    + "balloon 1 0;balloon 1 0;seed " + seed + ";");
            check.due("risk 0", mail.launch(0, 0), 3);
            mail.nextDay();
            check.due("risk 10", mail.launch(1, 0), 2);
        }
    }

    @Says(in = "BALLOONS AND PIGEONS",
            value = "Otherwise it has landed, its letters are delivered, and each of its pigeons "
            + "is released with answers to all of these letters.")
    static void deliveries(Check check) {
        BalloonMail mail = Check.siege(GOOD + "balloon 9 0;balloon 9 4;letter 1 1;letter 1 1;letter 1 1;");
        check.due("launch(0, 1) without pigeons", mail.launch(0, 1), 3);
        check.due("launch(1, 6) with four", mail.launch(1, 6), 3);
        check.due("lettersIn(2)", mail.lettersIn(2), 7);
        check.due("pigeonsOnTheWay()", mail.pigeonsOnTheWay(), 4);
        mail.nextDay();
        mail.nextDay();
        check.due("lettersIn(2), no pigeon was there to answer", mail.lettersIn(2), 1);
        check.due("lettersIn(3)", mail.lettersIn(3), 6);
    }

    @Says(in = "BALLOONS AND PIGEONS", value = "A pigeon comes back with the chance return (in tenths) of the region, "
            + "distance days after its release; otherwise it is lost.")
    static void distances(Check check) {
        for (int distance = 1; distance <= 9; distance++) {
            for (int start = 0; start <= 1; start++) {
                BalloonMail mail = Check.siege("region 0 " + distance + " 10;wind 0 10;balloon 1 1;loft 1;letter 1 1;");
                for (int day = 0; day < start; day++) {
                    mail.nextDay();
                }
                mail.launch(0, 1);
                for (int days = 1; days < distance; days++) {
                    mail.nextDay();
                    check.due("pigeonsOnTheWay() before", mail.pigeonsOnTheWay(), 1);
                    check.due("letterState(0) before", mail.letterState(0), 2);
                }
                check.due("nextReturn()", mail.nextReturn(), start + distance);
                mail.nextDay();
                check.due("pigeonsInLoft() on the day", mail.pigeonsInLoft(), 1);
                check.due("answerDay(0)", mail.answerDay(0), start + distance);
                mail.nextDay();
                check.due("pigeonsInLoft() on the day after", mail.pigeonsInLoft(), 1);
                check.due("answerDay(0) on the day after", mail.answerDay(0), start + distance);
            }
        }
        BalloonMail never = Check.siege("region 0 1 0;wind 0 10;balloon 1 4;letter 1 1;");
        never.launch(0, 1);
        check.due("pigeonsLost() with return 0", never.pigeonsLost(), 4);
        never.nextDay();
        check.due("letterState(0) with return 0", never.letterState(0), 2);
    }

    @Says(in = "BALLOONS AND PIGEONS",
            value = "The pigeons of a balloon are taken out of the loft when it is launched, "
            + "and a pigeon that comes back is in the loft again.")
    static void loft(Check check) {
        BalloonMail mail = Check.siege("region 0 1 10;wind 0 10;balloon 1 4;balloon 1 4;loft 4;");
        check.due("launch(0, 0) with all pigeons", mail.launch(0, 0), 3);
        check.due("pigeonsInLoft()", mail.pigeonsInLoft(), 0);
        check.due("launch(1, 0) with none left", mail.launch(1, 0), -4);
        mail.nextDay();
        check.due("pigeonsInLoft() after the return", mail.pigeonsInLoft(), 4);
        check.due("launch(1, 0) with the same pigeons", mail.launch(1, 0), 3);
        check.due("pigeonsInLoft()", mail.pigeonsInLoft(), 0);
    }

    @Says(in = "BALLOONS AND PIGEONS",
            value = "The pigeons of a balloon that is captured or falls into the sea are lost.")
    static void lostPigeons(Check check) {
        BalloonMail mail = Check.siege("region 10 1 10;wind 0 10;wind;turn 0 1 10;"
                + "balloon 1 4;balloon 1 3;balloon 1 0;");
        check.due("launch(0, 0)", mail.launch(0, 0), 2);
        check.due("pigeonsLost() after a capture", mail.pigeonsLost(), 4);
        check.due("pigeonsOnTheWay()", mail.pigeonsOnTheWay(), 0);
        mail.nextDay();
        check.due("launch(1, 0)", mail.launch(1, 0), 1);
        check.due("pigeonsLost() after the sea", mail.pigeonsLost(), 7);
        check.due("launch(2, 0) without pigeons", mail.launch(2, 0), 1);
        check.due("pigeonsLost()", mail.pigeonsLost(), 7);
        check.due("pigeonsInLoft()", mail.pigeonsInLoft(), 1);
        check.due("nextReturn()", mail.nextReturn(), -2);
    }

    @Says(in = "BALLOONS AND PIGEONS",
            value = "The first pigeon of a balloon that comes back makes all its letters answered.")
    static void firstPigeon(Check check) {
        for (int back = 0; back <= 1; back++) {
            // of two pigeons none or the second one comes back
            BalloonMail mail = Check.siege("region 0 1 5;wind 0 10;balloon 24 2;" + "letter 1 1;".repeat(24)
                    + seedWithPigeons(9, back == 0 ? 9 : 0));
            mail.launch(0, 0xffffff);
            check.due("pigeonsOnTheWay()", mail.pigeonsOnTheWay(), back);
            check.due("lettersIn(2)", mail.lettersIn(2), 0xffffff);
            mail.nextDay();
            check.due("lettersIn(3) with " + back, mail.lettersIn(3), back == 0 ? 0 : 0xffffff);
            check.due("answerDay(23) with " + back, mail.answerDay(23), back == 0 ? -2 : 1);
        }
    }

    /** The statement of a seed whose third and fourth draws are these. */
    private static String seedWithPigeons(int first, int second) {
        for (int seed = 0; seed <= 9999; seed++) {
            int[] draws = Bounds.draws(seed, 4);
            if (draws[2] == first && draws[3] == second) {
                return "seed " + seed + ";";
            }
        }
        throw new IllegalStateException("no such seed");
    }

    /** One balloon after another falls into the sea, is captured, lands far away, and lands near. */
    private static BalloonMail fourFates() {
        return Check.siege("region 10 1 10;region 0 9 10;region 0 1 10;wind;wind 0 10;wind 1 10;wind 2 10;"
                + "turn 0 1 10;turn 1 2 10;turn 2 3 10;" + "balloon 9 1;".repeat(5) + "letter 1 1;".repeat(5));
    }

    @Says(in = "BALLOONS AND PIGEONS", value = {"All these chances are independent of each other.",
        "A balloon has one of these states: 0 ready, 1 in the sea, 2 captured, 3 landed."})
    static void statesOfBalloons(Check check) {
        BalloonMail mail = fourFates();
        int[] states = {1, 2, 3, 3};
        for (int balloon = 0; balloon < 4; balloon++) {
            check.due("balloonState(" + balloon + ") before", mail.balloonState(balloon), 0);
            check.due("launch", mail.launch(balloon, 0), states[balloon]);
            check.due("balloonState(" + balloon + ") after", mail.balloonState(balloon), states[balloon]);
            mail.nextDay();
        }
        check.due("balloonState(4)", mail.balloonState(4), 0);
        check.due("balloonState(3) after the return of its pigeon", mail.balloonState(3), 3);
    }

    @Says(in = "BALLOONS AND PIGEONS",
            value = "A letter has one of these states: 0 waiting, 1 lost (in the sea or captured), "
                    + "2 delivered (and not answered so far), 3 answered.")
    static void statesOfLetters(Check check) {
        BalloonMail mail = fourFates();
        for (int balloon = 0; balloon < 4; balloon++) {
            mail.launch(balloon, 1 << balloon);
            check.due("letterState after the launch", mail.letterState(balloon), balloon < 2 ? 1 : 2);
            mail.nextDay();
        }
        int[] states = {1, 1, 2, 3, 0};
        for (int letter = 0; letter < 5; letter++) {
            check.due("letterState(" + letter + ")", mail.letterState(letter), states[letter]);
        }
        for (int day = 5; day <= 10; day++) {
            mail.nextDay();
        }
        check.due("letterState(2) on the day before its answer", mail.letterState(2), 2);
        mail.nextDay();
        check.due("letterState(2) on the day of its answer", mail.letterState(2), 3);
    }

    // ---- days

    @Says(in = "Promise 24", value = "Returns the present day, 0 at first.")
    static void days(Check check) {
        BalloonMail mail = new BalloonMail();
        check.due("day() of a new object", mail.day(), 0);
        for (int day = 1; day <= 200; day++) {
            mail.nextDay();
            check.due("day()", mail.day(), day);
        }
        mail.undo();
        check.due("day() after undo", mail.day(), 199);
        check.due("a failed parse", Check.parse(mail, "?"), 1);
        check.due("day() after a failed parse", mail.day(), 199);
        check.due("a parse", Check.parse(mail, "wind;balloon 1 0;"), 0);
        check.due("day() after a parse", mail.day(), 0);
        mail.launch(0, 0);
        check.due("day() after a launch", mail.day(), 0);
    }

    @Says(in = "Promise 25", value = "Returns the present wind; NONE if there are no winds.")
    static void winds(Check check) {
        BalloonMail mail = new BalloonMail();
        check.due("wind() of a new object", mail.wind(), -2);
        Check.parse(mail, "wind;");
        check.due("wind() of one", mail.wind(), 0);
        Check.parse(mail, "wind;".repeat(6) + "turn 5 0 10;start 5;");
        check.due("wind() of six", mail.wind(), 5);
        mail.nextDay();
        check.due("wind() after a turn", mail.wind(), 0);
        Check.parse(mail, "region 0 1 1;balloon 1 1;letter 1 1;");
        check.due("wind() without winds", mail.wind(), -2);
    }

    // ---- launches

    /** Balloon 0 has been launched with letter 0; of 3 pigeons 1 is left for balloon 1, which needs 2. */
    private static BalloonMail afterOneLaunch() {
        BalloonMail mail = Check.siege(GOOD + "balloon 9 2;balloon 9 2;balloon 9 1;"
                + "letter 4 1;letter 9 1;letter 1 1;loft 3;");
        mail.launch(0, 1);
        return mail;
    }

    private static void refused(Check check, String why, int balloon, int letters, int answer) {
        check.due("launch(" + balloon + ", " + letters + ") " + why, afterOneLaunch().launch(balloon, letters), answer);
        View.dueUnchanged(check, "launch(" + balloon + ", " + letters + ") " + why, FlightBoundsTest::afterOneLaunch,
                mail -> mail.launch(balloon, letters));
    }

    @Says(in = "Promise 26", value = "Launches a balloon in the present wind.")
    static void windsOfLaunches(Check check) {
        BalloonMail mail = Check.siege("region 0 1 1;wind;wind 0 10;turn 0 1 10;balloon 1 1;balloon 1 1;");
        check.due("launch(0, 0) in wind 0", mail.launch(0, 0), 1);
        mail.nextDay();
        check.due("launch(1, 0) in wind 1", mail.launch(1, 0), 3);
    }

    @Says(in = "Promise 26", value = "It carries as many pigeons as its statement says.")
    static void pigeonsOfLaunches(Check check) {
        for (int pigeons = 0; pigeons <= 4; pigeons++) {
            BalloonMail mail = Check.siege(GOOD + "balloon 1 " + pigeons + ";loft 4;");
            check.due("launch(0, 0)", mail.launch(0, 0), 3);
            check.due("pigeonsInLoft()", mail.pigeonsInLoft(), 4 - pigeons);
            check.due("pigeonsOnTheWay()", mail.pigeonsOnTheWay(), pigeons);
        }
    }

    @Says(in = "Promise 26",
            value = {"- `balloon`: the balloon", "- `letters`: the letters that it carries, possibly none"})
    static void lettersOfLaunches(Check check) {
        BalloonMail mail = Check.siege(GOOD + "balloon 999 0;".repeat(3) + "letter 1 1;".repeat(24));
        check.due("launch without letters", mail.launch(0, 0), 3);
        check.due("cargo(0)", mail.cargo(0), 0);
        check.due("lettersIn(2)", mail.lettersIn(2), 0);
        check.due("launch with letter 23", mail.launch(1, 1 << 23), 3);
        check.due("launch with the other letters", mail.launch(2, 0x7fffff), 3);
        check.due("lettersIn(2)", mail.lettersIn(2), 0xffffff);
        BalloonMail none = Check.siege(GOOD + "balloon 1 0;");
        check.due("launch with a letter that does not exist", none.launch(0, 1), -1);
        check.due("launch of a siege without letters", none.launch(0, 0), 3);
    }

    @Says(in = "Promise 26",
            value = "Returns the new state of the balloon, 1 to 3. Otherwise nothing changes, and the result is "
            + "the first of these that applies: "
            + "INVALID if there is no such balloon, or letters contains a letter that does not exist; "
            + "NONE if the balloon is not ready, one of the letters is not waiting, or there are no winds; "
            + "TOO_HEAVY if the total weight is greater than the capacity; "
            + "NO_PIGEONS if the loft has fewer pigeons than the balloon needs.")
    static void refusals(Check check) {
        int[] noBalloons = {-1, -2, 3, 10, Integer.MIN_VALUE, Integer.MAX_VALUE};
        for (int balloon : noBalloons) {
            refused(check, "no such balloon", balloon, 0, -1);
        }
        int[] noLetters = {8, 9, 1 << 24, 1 << 30, Integer.MIN_VALUE, -1};
        for (int letters : noLetters) {
            refused(check, "no such letter", 2, letters, -1);
        }
        refused(check, "not ready", 0, 0, -2);
        refused(check, "not waiting", 2, 1, -2);
        refused(check, "one of two not waiting", 2, 5, -2);
        refused(check, "too heavy", 2, 6, -3);
        refused(check, "no pigeons", 1, 0, -4);
        refused(check, "INVALID before NONE", 0, 8, -1);
        refused(check, "INVALID before NONE", 3, 1, -1);
        refused(check, "NONE before TOO_HEAVY", 2, 7, -2);
        refused(check, "NONE before NO_PIGEONS", 1, 1, -2);
        refused(check, "TOO_HEAVY before NO_PIGEONS", 1, 6, -3);
        justAccepted(check);
        withoutWinds(check);
    }

    private static void justAccepted(Check check) {
        check.due("launch of just the capacity", afterOneLaunch().launch(2, 2), 3);
        check.due("launch with the last pigeon", afterOneLaunch().launch(2, 4), 3);
        BalloonMail later = afterOneLaunch();
        later.nextDay();
        check.due("launch(1, 0) before the pigeons come back", later.launch(1, 0), -4);
        later.nextDay();
        check.due("launch(1, 1), answered and not waiting", later.launch(1, 1), -2);
        check.due("launch(1, 0) after the pigeons have come back", later.launch(1, 0), 3);
        BalloonMail empty = Check.siege(GOOD + "balloon 1 0;balloon 1 1;loft 0;");
        check.due("launch of one pigeon out of an empty loft", empty.launch(1, 0), -4);
        check.due("launch of no pigeon out of an empty loft", empty.launch(0, 0), 3);
        BalloonMail sea = Check.siege("wind;balloon 9 0;balloon 9 0;letter 1 1;");
        check.due("launch into the sea", sea.launch(0, 1), 1);
        check.due("launch(1, 1), lost and not waiting", sea.launch(1, 1), -2);
        sea.undo();
        check.due("launch(1, 1), waiting after undo", sea.launch(1, 1), 1);
    }

    private static void withoutWinds(Check check) {
        Supplier<BalloonMail> calm = () -> Check.siege("region 0 1 1;balloon 5 1;letter 9 9;loft 0;");
        int[][] calls = {{0, 0, -2}, {0, 1, -2}, {0, 2, -1}, {1, 0, -1}, {-1, 0, -1}};
        for (int[] call : calls) {
            String name = "launch(" + call[0] + ", " + call[1] + ") without winds";
            check.due(name, calm.get().launch(call[0], call[1]), call[2]);
            View.dueUnchanged(check, name, calm, mail -> mail.launch(call[0], call[1]));
        }
    }

    @Says(in = "Promise 27", value = "Goes on to the next day: the wind changes or stays, the day increases by 1, "
            + "and then the pigeons that are due on the new day come back, in the order in which they were released.")
    static void orderOfADay(Check check) {
        BalloonMail mail = Check.siege("region 0 2 10;region 0 1 10;wind 0 10;wind 1 10;turn 0 1 10;turn 1 0 10;"
                + "balloon 1 2;balloon 1 1;balloon 1 1;");
        mail.launch(2, 0);
        mail.launch(0, 0);
        check.due("nextDay()", mail.nextDay(), 1);
        mail.launch(1, 0);
        check.due("eventCount() before the returns", mail.eventCount(), 4);
        check.due("nextDay()", mail.nextDay(), 0);
        check.due("day()", mail.day(), 2);
        int[] kinds = {5, 4, 4, 4, 4};
        int[] numbers = {0, 2, 0, 0, 1};
        for (int k = 0; k < 5; k++) {
            check.due("eventKind(" + (4 + k) + ")", mail.eventKind(4 + k), kinds[k]);
            check.due("eventNumber(" + (4 + k) + ")", mail.eventNumber(4 + k), numbers[k]);
            check.due("eventDay(" + (4 + k) + ")", mail.eventDay(4 + k), 2);
        }
    }

    /** Without winds no draw can be seen: all that shows is that the day passes and nothing else happens. */
    @Says(in = "Promise 27", value = "Without winds nothing is drawn.")
    static void daysWithoutWinds(Check check) {
        BalloonMail mail = Check.siege("region 0 1 1;balloon 1 1;letter 1 1;");
        mail.nextDay();
        check.due("day()", mail.day(), 1);
        check.due("undoDepth()", mail.undoDepth(), 1);
        check.due("eventCount()", mail.eventCount(), 0);
        check.due("launch(0, 1)", mail.launch(0, 1), -2);
        check.due("undo()", mail.undo(), true);
        check.due("day() after undo", mail.day(), 0);
    }

    @Says(in = "Promise 27", value = "Returns the new wind; NONE if there are no winds.")
    static void newWinds(Check check) {
        check.due("nextDay() of a new object", new BalloonMail().nextDay(), -2);
        check.due("nextDay() without winds", Check.siege("region 0 1 1;balloon 1 1;").nextDay(), -2);
        check.due("nextDay() of one wind", Check.siege("wind;").nextDay(), 0);
        BalloonMail six = Check.siege("wind;".repeat(6)
                + "turn 0 1 10;turn 1 2 10;turn 2 3 10;turn 3 4 10;turn 4 5 10;turn 5 0 10;");
        for (int day = 1; day <= 13; day++) {
            check.due("nextDay() of six winds", six.nextDay(), day % 6);
            check.due("wind()", six.wind(), day % 6);
        }
    }

    // ---- balloons and letters

    private static BalloonMail tenBalloons() {
        return Check.siege(GOOD + "balloon 9 0;".repeat(10) + "letter 1 1;".repeat(3));
    }

    @Says(in = "Promise 28", value = {"Returns the state of a balloon.",
        "Returns 0 to 3; INVALID if there is no such balloon."})
    static void balloonStates(Check check) {
        BalloonMail mail = tenBalloons();
        Bounds.within(check, "balloonState", 0, 9, mail::balloonState);
        check.due("balloonState(9)", mail.balloonState(9), 0);
        check.due("launch(9, 0)", mail.launch(9, 0), 3);
        check.due("balloonState(9) after", mail.balloonState(9), 3);
        check.due("balloonState(8) after", mail.balloonState(8), 0);
        BalloonMail one = Check.siege("balloon 1 1;letter 1 1;letter 1 1;");
        Bounds.within(check, "balloonState of one", 0, 0, one::balloonState);
        Bounds.never(check, "balloonState of none", Check.siege("wind;letter 1 1;")::balloonState);
    }

    @Says(in = "Promise 29", value = {"Returns the region in which a balloon came down.",
        "Returns the region; NONE if it is ready or in the sea; INVALID if there is no such balloon."})
    static void balloonRegions(Check check) {
        BalloonMail mail = Check.siege("region 10 1 1;".repeat(7) + "region 0 1 1;"
                + "wind;wind 0 10;wind 7 10;turn 0 1 10;turn 1 2 10;"
                + "balloon 9 0;".repeat(10));
        Bounds.within(check, "balloonRegion", 0, 9, mail::balloonRegion);
        int[] regions = {-2, 0, 7};
        for (int balloon = 0; balloon < 3; balloon++) {
            check.due("balloonRegion of a ready balloon", mail.balloonRegion(balloon), -2);
            check.due("launch", mail.launch(balloon, 0), balloon + 1);
            check.due("balloonRegion in state " + (balloon + 1), mail.balloonRegion(balloon), regions[balloon]);
            mail.nextDay();
        }
        check.due("balloonRegion(9), ready", mail.balloonRegion(9), -2);
        Bounds.never(check, "balloonRegion of none", Check.siege(GOOD)::balloonRegion);
    }

    @Says(in = "Promise 30", value = {"Returns the letters that a balloon carried when it was launched.",
        "Returns the set, 0 if it is ready; INVALID if there is no such balloon."})
    static void cargoes(Check check) {
        BalloonMail mail = tenBalloons();
        Bounds.within(check, "cargo", 0, 9, mail::cargo);
        check.due("cargo(9), ready", mail.cargo(9), 0);
        mail.launch(9, 5);
        check.due("cargo(9), delivered", mail.cargo(9), 5);
        mail.launch(0, 0);
        check.due("cargo(0), nothing", mail.cargo(0), 0);
        mail.undo();
        mail.undo();
        check.due("cargo(9) after undo", mail.cargo(9), 0);
        BalloonMail sea = Check.siege("wind;balloon 99 1;" + "letter 1 1;".repeat(24));
        sea.launch(0, 0xffffff);
        check.due("cargo(0) in the sea", sea.cargo(0), 0xffffff);
        BalloonMail answered = Check.siege("region 0 1 10;wind 0 10;balloon 9 1;letter 1 1;");
        answered.launch(0, 1);
        answered.nextDay();
        check.due("cargo(0), answered", answered.cargo(0), 1);
        Bounds.never(check, "cargo of none", Check.siege(GOOD)::cargo);
    }

    @Says(in = "Promise 31",
            value = {"Returns the state of a letter.", "Returns 0 to 3; INVALID if there is no such letter."})
    static void letterStates(Check check) {
        BalloonMail mail = Check.siege("region 0 1 10;wind 0 10;balloon 9 1;balloon 9 1;" + "letter 1 1;".repeat(24));
        Bounds.within(check, "letterState", 0, 23, mail::letterState);
        check.due("letterState(23), waiting", mail.letterState(23), 0);
        mail.launch(1, 1 << 23 | 1);
        check.due("letterState(23), delivered", mail.letterState(23), 2);
        mail.nextDay();
        check.due("letterState(23), answered", mail.letterState(23), 3);
        check.due("letterState(0), answered", mail.letterState(0), 3);
        check.due("letterState(22), waiting", mail.letterState(22), 0);
        BalloonMail one = Check.siege("letter 1 1;balloon 1 1;balloon 1 1;");
        Bounds.within(check, "letterState of one", 0, 0, one::letterState);
        Bounds.never(check, "letterState of none", Check.siege("wind;balloon 1 1;")::letterState);
    }

    @Says(in = "Promise 32", value = {"Returns the day on which a letter was answered.",
        "Returns the day; NONE if it is not answered; INVALID if there is no such letter."})
    static void answerDays(Check check) {
        BalloonMail mail = Check.siege("region 0 9 10;wind 0 10;balloon 9 4;balloon 9 4;" + "letter 1 1;".repeat(24));
        Bounds.within(check, "answerDay", 0, 23, mail::answerDay);
        check.due("answerDay(23), waiting", mail.answerDay(23), -2);
        mail.launch(0, 1 << 23);
        for (int day = 1; day <= 8; day++) {
            mail.nextDay();
        }
        check.due("answerDay(23), delivered", mail.answerDay(23), -2);
        mail.nextDay();
        check.due("answerDay(23), answered", mail.answerDay(23), 9);
        mail.undo();
        check.due("answerDay(23) after undo", mail.answerDay(23), -2);
        mail.nextDay();
        mail.nextDay();
        check.due("answerDay(23) on a later day", mail.answerDay(23), 9);
        check.due("answerDay(0)", mail.answerDay(0), -2);
        BalloonMail sea = Check.siege("wind;balloon 9 1;letter 1 1;");
        sea.launch(0, 1);
        check.due("answerDay(0), lost", sea.answerDay(0), -2);
        Bounds.never(check, "answerDay of none", Check.siege(GOOD)::answerDay);
    }
}
