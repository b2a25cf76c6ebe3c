import java.util.Random;

/** Random runs of calls, each answer compared with the one of the model. The seeds are fixed. */
public final class RandomRunsTest {
    private static final int RUNS = 400;
    /** Beyond its 512th call an object may answer what it likes: this leaves room for the last questions. */
    private static final int CALLS = 400;
    private static final int[] ODD = {-1, -2, -3, 9, 10, 11, 24, 31, 32, 900, 901,
        Integer.MIN_VALUE, Integer.MAX_VALUE};

    private final Check check;
    private final Random random;
    private final BalloonMail mail = new BalloonMail();
    private final Model model = new Model();
    private final int run;
    private int calls;

    private RandomRunsTest(Check check, int run) {
        this.check = check;
        this.run = run;
        this.random = new Random(run);
    }

    public static void main(String[] args) {
        Check check = new Check("RandomRunsTest");
        for (int run = 0; run < RUNS; run++) {
            new RandomRunsTest(check, run).play();
        }
        for (int run = 0; run < 20 * RUNS; run++) {
            new RandomRunsTest(check, -1 - run).playParses();
        }
        check.finish();
    }

    private void play() {
        if (random.nextInt(10) > 0) {
            handIn(siegeText());
        }
        while (calls < CALLS) {
            if (random.nextInt(150) == 0) {
                String text = siegeText();
                handIn(random.nextBoolean() ? text : spoil(text));
            } else if (random.nextInt(3) == 0) {
                change();
            } else {
                ask(random.nextInt(41));
            }
        }
        for (int question = 0; question < 41; question++) {
            ask(question);
        }
    }

    /** Texts with faults; what stands before and after them must be the same for both. */
    private void playParses() {
        for (int k = 0; k < 3; k++) {
            String text = siegeText();
            for (int fault = random.nextInt(3); fault > 0; fault--) {
                text = spoil(text);
            }
            handIn(text);
            for (int question = 0; question < 12; question++) {
                ask(question);
            }
        }
    }

    private void due(String call, long got, long want) {
        calls++;
        check.due("run " + run + " " + call, got, want);
    }

    private void handIn(String text) {
        for (int[] w : Check.words(text)) {
            due("append", mail.append(w[0], w[1], w[2], w[3], w[4]), model.append(w));
        }
        int length = Math.min(text.length(), 900);
        due("parse of " + text, mail.parse(length), model.parse(length));
        due("errorPosition of " + text, mail.errorPosition(), model.errorPosition);
    }

    private int number(int low, int high) {
        return low + random.nextInt(high - low + 1);
    }

    private String siegeText() {
        StringBuilder text = new StringBuilder();
        int regions = number(0, random.nextInt(4) == 0 ? 9 : 4);
        int winds = number(random.nextInt(8) == 0 ? 0 : 1, random.nextInt(4) == 0 ? 7 : 4);
        for (int k = 0; k < regions; k++) {
            text.append("region ").append(number(0, random.nextBoolean() ? 10 : 4)).append(' ')
                    .append(number(1, random.nextBoolean() ? 9 : 3)).append(' ')
                    .append(number(0, 10)).append(end());
        }
        for (int k = 0; k < winds; k++) {
            text.append("wind").append(shares(regions, -1)).append(end());
        }
        for (int from = 0; from < winds; from++) {
            for (String share : shares(winds, from).split("  ")) {
                if (!share.isBlank()) {
                    text.append("turn ").append(from).append(' ').append(share.trim()).append(end());
                }
            }
        }
        appendCargo(text);
        if (winds > 0 && random.nextBoolean()) {
            text.append("start ").append(random.nextInt(winds)).append(end());
        }
        if (random.nextBoolean()) {
            text.append("loft ").append(number(0, 40)).append(end());
        }
        if (random.nextInt(5) > 0) {
            text.append("seed ").append(number(0, 9999)).append(end());
        }
        return text.length() > 900 ? text.substring(0, 900) : text.toString();
    }

    private void appendCargo(StringBuilder text) {
        int balloons = number(0, random.nextInt(4) == 0 ? 11 : 6);
        boolean twins = random.nextInt(3) == 0;
        for (int k = 0; k < balloons; k++) {
            int capacity = twins ? 10 : number(1, random.nextBoolean() ? 999 : 60);
            text.append("balloon ").append(capacity).append(' ')
                    .append(twins ? 2 : number(0, 4)).append(end());
        }
        int letters = number(0, random.nextInt(30) == 0 ? 15 : 10);
        int weights = random.nextBoolean() ? 99 : 5;
        for (int k = 0; k < letters; k++) {
            text.append("letter ").append(number(1, weights)).append(' ')
                    .append(number(1, twins ? 2 : 9)).append(end());
        }
    }

    /** Different targets other than one, each with a weight, with two spaces before each. */
    private String shares(int targets, int except) {
        StringBuilder text = new StringBuilder();
        int left = 10;
        int first = targets == 0 ? 0 : random.nextInt(targets);
        for (int k = 0; k < targets && left > 0; k++) {
            int target = (first + k * (targets % 3 == 0 ? 1 : targets - 1)) % targets;
            boolean seen = text.indexOf("  " + target + " ") >= 0;
            if (target != except && !seen && random.nextInt(3) > 0) {
                int weight = number(1, random.nextBoolean() ? left : Math.min(left, 4));
                text.append("  ").append(target).append(' ').append(weight);
                left -= weight;
            }
        }
        return text.toString();
    }

    private String end() {
        return switch (random.nextInt(6)) {
            case 0 -> " ;\n";
            case 1 -> "; ";
            default -> ";";
        };
    }

    private String spoil(String text) {
        int place = random.nextInt(text.length() + 1);
        int until = Math.min(text.length(), place + random.nextInt(random.nextInt(4) == 0 ? 20 : 3));
        String[] pieces = {"", "0", "1", "9", "11", "12345", "00010", "0003", " ", "\n", ";", "wind", "turn",
            "loft 3;", "seed 4;", "start 0;", "region", "letter 1 1;", "a", "lettersss", "z", "A", "-", "\t",
            "\r", "\u0000", "\u00e9", "\u00ff", "region 1 1 1;", "wind;", "turn 0 1 1;", "turn 0 0 1;",
            "balloon 1 1;", "wind 0 5 0 5;", "turn 1 0 9;"};
        String spoilt = text.substring(0, place) + pieces[random.nextInt(pieces.length)] + text.substring(until);
        return spoilt.length() > 900 ? spoilt.substring(0, 900) : spoilt;
    }

    private int odd(int bound) {
        return random.nextInt(8) == 0 ? ODD[random.nextInt(ODD.length)] : random.nextInt(bound);
    }

    private int letterSet() {
        return switch (random.nextInt(8)) {
            case 0 -> random.nextInt();
            case 1 -> 1 << random.nextInt(32);
            case 2 -> 0;
            default -> random.nextInt() & random.nextInt() & model.lettersIn(random.nextInt(4) == 0 ? 2 : 0);
        };
    }

    private void change() {
        switch (random.nextInt(16)) {
            case 0, 1, 2, 3 -> launch(odd(Math.max(1, model.siege.balloons.size())), letterSet());
            case 4, 5 -> launchBest(random.nextInt(Math.max(1, model.siege.balloons.size())));
            case 6, 7, 8, 9, 10, 11 -> due("nextDay", mail.nextDay(), model.nextDay());
            case 12 -> dueTruth("undo", mail.undo(), model.undo());
            case 13 -> {
                for (int k = random.nextInt(14); k > 0; k--) {
                    dueTruth("undo", mail.undo(), model.undo());
                }
            }
            case 14 -> {
                int slot = number(-1, 2);
                dueTruth("saveSnapshot", mail.saveSnapshot(slot), model.saveSnapshot(slot));
            }
            default -> {
                int slot = number(-1, 2);
                dueTruth("restoreSnapshot", mail.restoreSnapshot(slot), model.restoreSnapshot(slot));
            }
        }
    }

    private void dueTruth(String call, boolean got, boolean want) {
        due(call, got ? 1 : 0, want ? 1 : 0);
    }

    private void launch(int balloon, int letters) {
        due("launch(" + balloon + ", " + letters + ")", mail.launch(balloon, letters),
                model.launch(balloon, letters));
    }

    private void launchBest(int balloon) {
        int load = model.bestLoad(balloon);
        due("bestLoad(" + balloon + ")", mail.bestLoad(balloon), load);
        launch(balloon, load);
    }

    private void ask(int question) {
        int n = odd(10);
        int d = odd(9);
        switch (question) {
            case 0 -> due("regionCount", mail.regionCount(), model.siege.regions.size());
            case 1 -> due("windCount", mail.windCount(), model.siege.winds.size());
            case 2 -> due("balloonCount", mail.balloonCount(), model.siege.balloons.size());
            case 3 -> due("letterCount", mail.letterCount(), model.siege.letters.size());
            case 4 -> due("errorPosition", mail.errorPosition(), model.errorPosition);
            case 5 -> due("capacity " + n, mail.capacity(n), model.capacity(n));
            case 6 -> due("letterWeight " + n, mail.letterWeight(n), model.letterWeight(n));
            case 7 -> due("pigeonsInLoft", mail.pigeonsInLoft(), model.world.loft);
            case 8 -> due("wind", mail.wind(), model.world.wind);
            case 9 -> due("day", mail.day(), model.world.day);
            case 10 -> due("undoDepth", mail.undoDepth(), model.past.size());
            case 11 -> due("eventCount", mail.eventCount(), model.world.events.size());
            case 12 -> due("balloonState " + n, mail.balloonState(n), model.balloonState(n));
            case 13 -> due("balloonRegion " + n, mail.balloonRegion(n), model.balloonRegion(n));
            case 14 -> due("cargo " + n, mail.cargo(n), model.cargo(n));
            case 15 -> due("letterState " + n, mail.letterState(n), model.letterState(n));
            case 16 -> due("answerDay " + n, mail.answerDay(n), model.answerDay(n));
            case 17 -> due("pigeonsOnTheWay", mail.pigeonsOnTheWay(), model.world.birds.size());
            case 18 -> due("pigeonsLost", mail.pigeonsLost(), model.world.lost);
            case 19 -> due("nextReturn", mail.nextReturn(), model.nextReturn());
            case 20 -> due("answeredPriority", mail.answeredPriority(), model.answeredPriority());
            default -> askMore(question, n, d);
        }
    }

    private void askMore(int question, int n, int d) {
        int s = odd(4);
        int p = odd(5);
        int set = letterSet();
        switch (question) {
            case 21 -> due("weightIn " + s, mail.weightIn(s), model.weightIn(s));
            case 22 -> due("lettersIn " + s, mail.lettersIn(s), model.lettersIn(s));
            case 23 -> due("balloonsIn " + n, mail.balloonsIn(n), model.balloonsIn(n));
            case 24 -> due("weightOf " + set, mail.weightOf(set), model.weightOf(set));
            case 25 -> due("priorityOf " + set, mail.priorityOf(set), model.priorityOf(set));
            case 26 -> due("bestLoad " + n, mail.bestLoad(n), model.bestLoad(n));
            case 27 -> due("assignedDay " + n, mail.assignedDay(n), model.assignedDay(n));
            case 28 -> due("assignmentTotal", mail.assignmentTotal(), model.assignmentTotal());
            case 29 -> due("bestDay " + p, mail.bestDay(p), model.bestDay(p));
            case 30 -> due("windChance " + n + " " + d, mail.windChance(n, d), model.windChance(n, d));
            case 31 -> due("avoidChance " + n + " " + d, mail.avoidChance(n, d), model.avoidChance(n, d));
            case 32 -> due("landingChance " + n + " " + d, mail.landingChance(n, d), model.landingChance(n, d));
            case 33 -> due("landingChance -2 " + d, mail.landingChance(-2, d), model.landingChance(-2, d));
            case 34 -> due("deliveryChance " + d, mail.deliveryChance(d), model.deliveryChance(d));
            case 35 -> due("answerChance " + p + " " + d, mail.answerChance(p, d), model.answerChance(p, d));
            case 36 -> due("answerPermille " + p + " " + d, mail.answerPermille(p, d), model.answerPermille(p, d));
            case 37 -> askEvent(odd(17));
            case 38 -> due("parse", mail.parse(-1), model.parse(-1));
            case 39 -> due("parse", mail.parse(901), model.parse(901));
            default -> askEvent(random.nextInt(1 + model.world.events.size()));
        }
    }

    private void askEvent(int index) {
        if (index < 0 || index >= model.world.events.size()) {
            calls += 3;
            check.dueThrows("run " + run + " eventKind(" + index + ")", () -> mail.eventKind(index));
            check.dueThrows("run " + run + " eventNumber(" + index + ")", () -> mail.eventNumber(index));
            check.dueThrows("run " + run + " eventDay(" + index + ")", () -> mail.eventDay(index));
            return;
        }
        due("eventKind(" + index + ")", mail.eventKind(index), model.event(index).kind());
        due("eventNumber(" + index + ")", mail.eventNumber(index), model.event(index).number());
        due("eventDay(" + index + ")", mail.eventDay(index), model.event(index).day());
    }
}
