import java.util.function.Consumer;
import java.util.function.Supplier;

/** All that an object answers, as a text, so that two objects can be compared. */
final class View {
    private static final int MOST_UNDOS = 13;
    private static final int DAYS = 3;

    private final BalloonMail mail;
    private final StringBuilder text = new StringBuilder();

    private View(BalloonMail mail) {
        this.mail = mail;
    }

    static String of(BalloonMail mail) {
        View view = new View(mail);
        view.addTotals();
        view.addBalloons();
        view.addLetters();
        view.addPlaces();
        view.addEvents();
        return view.text.toString();
    }

    private void add(String call, Object answer) {
        text.append(call).append(" = ").append(answer).append('\n');
    }

    private void addTotals() {
        add("errorPosition()", mail.errorPosition());
        add("regionCount()", mail.regionCount());
        add("windCount()", mail.windCount());
        add("balloonCount()", mail.balloonCount());
        add("letterCount()", mail.letterCount());
        add("assignmentTotal()", mail.assignmentTotal());
        add("day()", mail.day());
        add("wind()", mail.wind());
        add("pigeonsInLoft()", mail.pigeonsInLoft());
        add("pigeonsOnTheWay()", mail.pigeonsOnTheWay());
        add("pigeonsLost()", mail.pigeonsLost());
        add("nextReturn()", mail.nextReturn());
        add("answeredPriority()", mail.answeredPriority());
        add("undoDepth()", mail.undoDepth());
        for (int state = 0; state <= 3; state++) {
            add("lettersIn(" + state + ")", mail.lettersIn(state));
            add("weightIn(" + state + ")", mail.weightIn(state));
        }
    }

    private void addBalloons() {
        for (int balloon = 0; balloon < mail.balloonCount(); balloon++) {
            add("capacity(" + balloon + ")", mail.capacity(balloon));
            add("assignedDay(" + balloon + ")", mail.assignedDay(balloon));
            add("bestLoad(" + balloon + ")", mail.bestLoad(balloon));
            add("balloonState(" + balloon + ")", mail.balloonState(balloon));
            add("balloonRegion(" + balloon + ")", mail.balloonRegion(balloon));
            add("cargo(" + balloon + ")", mail.cargo(balloon));
        }
    }

    private void addLetters() {
        for (int letter = 0; letter < mail.letterCount(); letter++) {
            add("letterWeight(" + letter + ")", mail.letterWeight(letter));
            add("priorityOf(letter " + letter + ")", mail.priorityOf(1 << letter));
            add("answerDay(" + letter + ")", mail.answerDay(letter));
        }
    }

    private void addPlaces() {
        for (int region = 0; region < mail.regionCount(); region++) {
            add("balloonsIn(" + region + ")", mail.balloonsIn(region));
            add("landingChance(" + region + ", 1)", mail.landingChance(region, 1));
        }
        for (int wind = 0; wind < mail.windCount(); wind++) {
            add("windChance(" + wind + ", 1)", mail.windChance(wind, 1));
        }
    }

    private void addEvents() {
        int events = mail.eventCount();
        add("eventCount()", events);
        for (int index = 0; index < events; index++) {
            add("eventKind(" + index + ")", mail.eventKind(index));
            add("eventNumber(" + index + ")", mail.eventNumber(index));
            add("eventDay(" + index + ")", mail.eventDay(index));
        }
    }

    /** What is seen of an object now and later, the draws, the history, the slots and the buffer too. */
    static String nowAndLater(BalloonMail mail) {
        View later = new View(mail);
        later.text.append(of(mail)).append("-- later --\n");
        for (int balloon = mail.balloonCount() - 1; balloon >= 0; balloon--) {
            later.add("launch(" + balloon + ", 0)", mail.launch(balloon, 0));
        }
        later.addDays();
        for (int k = 0; k < MOST_UNDOS; k++) {
            later.add("undo()", mail.undo());
        }
        later.addTotals();
        for (int slot = 0; slot <= 1; slot++) {
            later.add("restoreSnapshot(" + slot + ")", mail.restoreSnapshot(slot));
            later.addDays();
        }
        later.add("append()", mail.append(0, 0, 0, 0, 0));
        return later.text.toString();
    }

    private void addDays() {
        addTotals();
        for (int day = 0; day < DAYS; day++) {
            add("nextDay()", mail.nextDay());
        }
        addEvents();
    }

    /** A call has changed nothing if nobody can tell its object from one on which it was not made. */
    static void dueUnchanged(Check check, String call, Supplier<BalloonMail> maker, Consumer<BalloonMail> change) {
        BalloonMail changed = maker.get();
        change.accept(changed);
        check.dueText("after " + call, nowAndLater(changed), nowAndLater(maker.get()));
    }
}
