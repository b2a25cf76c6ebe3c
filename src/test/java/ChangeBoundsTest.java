import java.util.function.Consumer;
import java.util.function.IntUnaryOperator;

/** The boundaries of promises 40 to 47: the journal, undo and the snapshots. */
public final class ChangeBoundsTest {
    /** The wind changes every day, between 0 and 1. */
    private static final String RESTLESS = "region 0 2 10;wind 0 10;wind;turn 0 1 10;turn 1 0 10;";
    private static final String LOADED = RESTLESS
            + "balloon 9 2;balloon 9 1;balloon 9 0;letter 2 3;letter 4 5;seed 12;";
    private static final int LATEST_CHANGES = 12;
    private static final int LATEST_EVENTS = 16;
    /** The events of eventsOfAllKinds. */
    private static final int[] ALL_KINDS = {1, 5, 2, 5, 3, 4};
    private static final int[] THEIR_NUMBERS = {9, 1, 8, 2, 7, 7};
    private static final int[] THEIR_DAYS = {0, 1, 1, 2, 2, 3};

    public static void main(String[] args) throws ReflectiveOperationException {
        Bounds.run(ChangeBoundsTest.class);
    }

    private static void passDays(BalloonMail mail, int days) {
        for (int day = 0; day < days; day++) {
            mail.nextDay();
        }
    }

    private static BalloonMail after(String text, Consumer<BalloonMail> calls) {
        BalloonMail mail = Check.siege(text);
        calls.accept(mail);
        return mail;
    }

    // ---- journal

    private static void dueEvent(Check check, BalloonMail mail, int index, int kind, int number, int day) {
        check.due("eventKind(" + index + ")", mail.eventKind(index), kind);
        check.due("eventNumber(" + index + ")", mail.eventNumber(index), number);
        check.due("eventDay(" + index + ")", mail.eventDay(index), day);
    }

    @Says(in = "JOURNAL", value = "The journal holds the latest 16 events, the oldest first.")
    static void latestEvents(Check check) {
        for (int days = 1; days <= 40; days++) {
            BalloonMail mail = Check.siege(RESTLESS);
            passDays(mail, days);
            int held = Math.min(days, LATEST_EVENTS);
            check.due("eventCount() on day " + days, mail.eventCount(), held);
            int oldest = days - held + 1;
            dueEvent(check, mail, 0, 5, oldest % 2, oldest);
            dueEvent(check, mail, held / 2, 5, (oldest + held / 2) % 2, oldest + held / 2);
            dueEvent(check, mail, held - 1, 5, days % 2, days);
        }
        // one change with more events than the journal holds: nine balloons of four pigeons come back at once
        BalloonMail crowd = Check.siege("region 0 1 10;wind 0 10;" + "balloon 1 4;".repeat(9) + "loft 36;");
        for (int balloon = 0; balloon < 9; balloon++) {
            crowd.launch(balloon, 0);
        }
        crowd.nextDay();
        check.due("eventCount()", crowd.eventCount(), LATEST_EVENTS);
        for (int index = 0; index < LATEST_EVENTS; index++) {
            dueEvent(check, crowd, index, 4, 5 + index / 4, 1);
        }
        crowd.undo();
        check.due("eventCount() after undo", crowd.eventCount(), 9);
        dueEvent(check, crowd, 8, 3, 8, 0);
    }

    @Says(in = "JOURNAL",
            value = "Its events are: kind 1, 2 or 3, a balloon got this state, with the number of the balloon; "
            + "kind 4, a pigeon came back, with the number of its balloon; "
            + "kind 5, the wind has changed to a different one, with the number of the new wind.")
    static void kindsOfEvents(Check check) {
        BalloonMail mail = eventsOfAllKinds();
        mail.nextDay();
        check.due("eventCount(), none for a wind that stays", mail.eventCount(), ALL_KINDS.length);
        for (int index = 0; index < ALL_KINDS.length; index++) {
            dueEvent(check, mail, index, ALL_KINDS[index], THEIR_NUMBERS[index], THEIR_DAYS[index]);
        }
        BalloonMail lost = Check.siege("region 0 1 0;wind 0 10;balloon 1 4;");
        lost.launch(0, 0);
        lost.nextDay();
        check.due("eventCount(), none for a pigeon that is lost", lost.eventCount(), 1);
        check.due("a refused launch", lost.launch(0, 0), -2);
        check.due("eventCount(), none for a refused launch", lost.eventCount(), 1);
    }

    @Says(in = "Promise 40", value = "Returns the number of events in the journal, 0 to 16.")
    static void eventCounts(Check check) {
        check.due("eventCount() of a new object", new BalloonMail().eventCount(), 0);
        BalloonMail mail = Check.siege(RESTLESS);
        for (int day = 0; day <= 40; day++) {
            check.due("eventCount() on day " + day, mail.eventCount(), Math.min(day, LATEST_EVENTS));
            mail.nextDay();
        }
        check.due("a failed parse", Check.parse(mail, "?"), 1);
        check.due("eventCount() after a failed parse", mail.eventCount(), LATEST_EVENTS);
        check.due("a parse", Check.parse(mail, RESTLESS), 0);
        check.due("eventCount() after a parse", mail.eventCount(), 0);
    }

    /** What one of the three methods tells of an event. */
    private interface Question {
        int ask(BalloonMail mail, int index);
    }

    /** Index 0 is the oldest event: before the journal is full, when it is just full, and after the wrap-around. */
    private static void indexes(Check check, String name, Question question, IntUnaryOperator answerOfDay) {
        int[] days = {1, 15, 16, 17, 40};
        for (int passed : days) {
            BalloonMail mail = after(RESTLESS, it -> passDays(it, passed));
            int events = Math.min(passed, LATEST_EVENTS);
            for (int index = 0; index < events; index++) {
                int day = passed - events + 1 + index;
                check.due(name + "(" + index + ") on day " + passed, question.ask(mail, index),
                        answerOfDay.applyAsInt(day));
            }
        }
    }

    /** Beyond both ends: without events, with one, with all but one, just full, and after the wrap-around. */
    private static void wrongIndexes(Check check, String name, Question question) {
        int[] days = {0, 1, 15, 16, 17, 40};
        for (int passed : days) {
            BalloonMail mail = after(RESTLESS, it -> passDays(it, passed));
            int events = Math.min(passed, LATEST_EVENTS);
            int[] wrong = {-1, -2, events, events + 1, 17, Integer.MIN_VALUE, Integer.MAX_VALUE};
            for (int index : wrong) {
                check.dueThrows(name + "(" + index + ") of " + events, () -> question.ask(mail, index));
            }
            if (events > 0) {
                check.due(name + " of the first event", question.ask(mail, 0) >= 0, true);
                check.due(name + " of the last event", question.ask(mail, events - 1) >= 0, true);
            }
        }
        check.dueThrows(name + "(0) of a new object", () -> question.ask(new BalloonMail(), 0));
        BalloonMail undone = after(RESTLESS, mail -> passDays(mail, 2));
        undone.undo();
        check.dueThrows(name + "(1) of an event undone", () -> question.ask(undone, 1));
        View.dueUnchanged(check, name + "(-1)", () -> after(LOADED, it -> passDays(it, 3)),
                mail -> check.dueThrows(name + "(-1)", () -> question.ask(mail, -1)));
    }

    /** A balloon falls into the sea, one is captured, one lands, and its pigeon comes back. */
    private static BalloonMail eventsOfAllKinds() {
        BalloonMail mail = Check.siege("region 10 1 10;region 0 1 10;wind;wind 0 10;wind 1 10;"
                + "turn 0 1 10;turn 1 2 10;" + "balloon 1 1;".repeat(10));
        for (int balloon = 9; balloon >= 7; balloon--) {
            mail.launch(balloon, 0);
            mail.nextDay();
        }
        return mail;
    }

    private static void dueAll(Check check, String name, Question question, int[] answers) {
        BalloonMail mail = eventsOfAllKinds();
        check.due("eventCount()", mail.eventCount(), answers.length);
        for (int index = 0; index < answers.length; index++) {
            check.due(name + "(" + index + ")", question.ask(mail, index), answers[index]);
        }
    }

    @Says(in = "Promise 41", value = {"Returns the kind of an event of the journal.", "Returns 1 to 5."})
    static void eventKinds(Check check) {
        dueAll(check, "eventKind", BalloonMail::eventKind, ALL_KINDS);
    }

    @Says(in = "Promise 41", value = "- `index`: index of the event, from 0 for the oldest one")
    static void eventKindIndexes(Check check) {
        indexes(check, "eventKind", BalloonMail::eventKind, day -> 5);
    }

    @Says(in = "Promise 41", value = "Throws `IndexOutOfBoundsException` if there is no such event")
    static void eventKindThrows(Check check) {
        wrongIndexes(check, "eventKind", BalloonMail::eventKind);
    }

    @Says(in = "Promise 42",
            value = {"Returns the number that an event of the journal has: of a balloon, or of a wind for kind 5.",
                "Returns the number."})
    static void eventNumbers(Check check) {
        dueAll(check, "eventNumber", BalloonMail::eventNumber, THEIR_NUMBERS);
    }

    @Says(in = "Promise 42", value = "- `index`: index of the event, from 0 for the oldest one")
    static void eventNumberIndexes(Check check) {
        indexes(check, "eventNumber", BalloonMail::eventNumber, day -> day % 2);
    }

    @Says(in = "Promise 42", value = "Throws `IndexOutOfBoundsException` if there is no such event")
    static void eventNumberThrows(Check check) {
        wrongIndexes(check, "eventNumber", BalloonMail::eventNumber);
    }

    @Says(in = "Promise 43", value = {"Returns the day of an event of the journal.",
        "For the kinds 4 and 5 this is the new day.", "Returns the day."})
    static void eventDays(Check check) {
        dueAll(check, "eventDay", BalloonMail::eventDay, THEIR_DAYS);
    }

    @Says(in = "Promise 43", value = "- `index`: index of the event, from 0 for the oldest one")
    static void eventDayIndexes(Check check) {
        indexes(check, "eventDay", BalloonMail::eventDay, day -> day);
    }

    @Says(in = "Promise 43", value = "Throws `IndexOutOfBoundsException` if there is no such event")
    static void eventDayThrows(Check check) {
        wrongIndexes(check, "eventDay", BalloonMail::eventDay);
    }

    // ---- undo

    @Says(in = "CHANGES", value = "launch and nextDay are changes if they succeed.")
    static void whatAChangeIs(Check check) {
        BalloonMail mail = Check.siege(LOADED);
        mail.launch(0, 1);
        check.due("undoDepth() after a launch", mail.undoDepth(), 1);
        mail.nextDay();
        check.due("undoDepth() after a day", mail.undoDepth(), 2);
        int[][] refused = {{3, 0, -1}, {0, 0, -2}, {1, 1, -2}};
        for (int[] call : refused) {
            check.due("a refused launch", mail.launch(call[0], call[1]), call[2]);
        }
        mail.saveSnapshot(0);
        mail.append(0, 0, 0, 0, 0);
        mail.parse(21);
        mail.parse(20);
        mail.restoreSnapshot(1);
        check.due("undoDepth() after what is no change", mail.undoDepth(), 2);
        mail.undo();
        check.due("undoDepth() after undo, which is no change", mail.undoDepth(), 1);
        BalloonMail calm = new BalloonMail();
        calm.nextDay();
        check.due("undoDepth() after a day without winds", calm.undoDepth(), 1);
    }

    @Says(in = "CHANGES",
            value = "The latest 12 changes can be undone, the latest first; the state x is then as before, too.")
    static void latestChanges(Check check) {
        int[] days = {11, 12, 13, 24, 25, 40};
        for (int passed : days) {
            BalloonMail mail = Check.siege("wind;wind;turn 0 1 5;turn 1 0 5;seed 99;");
            int[] winds = new int[passed + 1];
            for (int day = 1; day <= passed; day++) {
                winds[day] = mail.nextDay();
            }
            int undone = Math.min(passed, LATEST_CHANGES);
            for (int k = 1; k <= undone; k++) {
                check.due("undo() " + k + " of " + passed, mail.undo(), true);
                check.due("day()", mail.day(), passed - k);
                check.due("wind()", mail.wind(), winds[passed - k]);
            }
            check.due("undo() of one more", mail.undo(), false);
            check.due("day()", mail.day(), passed - undone);
            for (int day = passed - undone + 1; day <= passed; day++) {
                check.due("nextDay() with the same draws", mail.nextDay(), winds[day]);
            }
        }
    }

    @Says(in = "Promise 44", value = "Undoes the latest change that has not been undone.")
    static void undos(Check check) {
        View.dueUnchanged(check, "a day undone", () -> after(LOADED, it -> it.launch(0, 3)), mail -> {
            mail.nextDay();
            check.due("undo()", mail.undo(), true);
        });
        View.dueUnchanged(check, "a launch undone", () -> after(LOADED, it -> passDays(it, 2)), mail -> {
            check.due("launch(0, 3)", mail.launch(0, 3), 3);
            check.due("undo()", mail.undo(), true);
        });
        View.dueUnchanged(check, "a return undone", () -> after(LOADED, it -> {
            it.launch(0, 3);
            it.nextDay();
        }), mail -> {
            mail.nextDay();
            check.due("answeredPriority()", mail.answeredPriority(), 8);
            check.due("undo()", mail.undo(), true);
        });
        View.dueUnchanged(check, "two changes undone, one of them made again", () -> after(LOADED, it -> it.nextDay()),
                mail -> {
                    mail.launch(1, 0);
                    check.due("undo() of the launch", mail.undo(), true);
                    check.due("undo() of the day", mail.undo(), true);
                    mail.nextDay();
                });
    }

    @Says(in = "Promise 44", value = "Returns true; false if there is none.")
    static void nothingToUndo(Check check) {
        check.due("undo() of a new object", new BalloonMail().undo(), false);
        View.dueUnchanged(check, "undo() without a change", () -> Check.siege(LOADED),
                mail -> check.due("undo()", mail.undo(), false));
        View.dueUnchanged(check, "all undone, and one more", () -> Check.siege(LOADED), mail -> {
            mail.launch(1, 1);
            passDays(mail, 11);
            for (int k = 0; k < LATEST_CHANGES; k++) {
                check.due("undo()", mail.undo(), true);
            }
            check.due("undo() of nothing", mail.undo(), false);
        });
        BalloonMail restored = after(LOADED, it -> passDays(it, 2));
        restored.saveSnapshot(0);
        restored.restoreSnapshot(0);
        check.due("undo() after a restore", restored.undo(), false);
        check.due("day()", restored.day(), 2);
    }

    @Says(in = "Promise 45", value = "Returns the number of changes that can be undone, 0 to 12.")
    static void undoDepths(Check check) {
        check.due("undoDepth() of a new object", new BalloonMail().undoDepth(), 0);
        BalloonMail mail = Check.siege(LOADED);
        for (int change = 1; change <= 30; change++) {
            mail.nextDay();
            check.due("undoDepth() after " + change, mail.undoDepth(), Math.min(change, LATEST_CHANGES));
        }
        for (int depth = LATEST_CHANGES - 1; depth >= 0; depth--) {
            mail.undo();
            check.due("undoDepth()", mail.undoDepth(), depth);
        }
        check.due("undo() of nothing", mail.undo(), false);
        check.due("undoDepth() stays 0", mail.undoDepth(), 0);
        mail.launch(0, 0);
        check.due("undoDepth() after a launch", mail.undoDepth(), 1);
        passDays(mail, 11);
        check.due("undoDepth() after 12", mail.undoDepth(), LATEST_CHANGES);
        mail.nextDay();
        check.due("undoDepth() after 13", mail.undoDepth(), LATEST_CHANGES);
        check.due("a failed parse", Check.parse(mail, "?"), 1);
        check.due("undoDepth() after a failed parse", mail.undoDepth(), LATEST_CHANGES);
    }

    // ---- snapshots

    @Says(in = "CHANGES",
            value = "There are two snapshot slots, 0 and 1; a snapshot holds the day, the wind, the state x, "
            + "all states and totals, the loft, the pigeons on their way and the journal.")
    static void whatASnapshotHolds(Check check) {
        for (int slot = 0; slot <= 1; slot++) {
            int used = slot;
            // undo is cleared on both sides, so that all else can be compared
            View.dueUnchanged(check, "a snapshot restored from slot " + slot, () -> after(LOADED, it -> {
                it.nextDay();
                it.nextDay();
                it.launch(0, 2);
                it.nextDay();
                it.saveSnapshot(used);
                it.restoreSnapshot(used);
            }), mail -> {
                passDays(mail, 5);
                mail.launch(1, 1);
                mail.launch(2, 0);
                passDays(mail, 5);
                check.due("restoreSnapshot(" + used + ")", mail.restoreSnapshot(used), true);
            });
        }
        twoSnapshots(check);
    }

    /** In slot 0 balloon 1 flew before balloon 0, in slot 1 after it and two days later. */
    private static void twoSnapshots(Check check) {
        BalloonMail mail = Check.siege(LOADED);
        mail.launch(1, 0);
        mail.launch(0, 0);
        mail.saveSnapshot(0);
        mail.undo();
        mail.undo();
        passDays(mail, 2);
        mail.launch(0, 0);
        mail.launch(1, 0);
        mail.saveSnapshot(1);
        passDays(mail, 3);
        for (int round = 0; round < 2; round++) {
            mail.restoreSnapshot(0);
            check.due("nextReturn() of slot 0", mail.nextReturn(), 2);
            passDays(mail, 2);
            dueEvent(check, mail, 4, 4, 1, 2);
            dueEvent(check, mail, 5, 4, 0, 2);
            mail.restoreSnapshot(1);
            check.due("nextReturn() of slot 1", mail.nextReturn(), 4);
            passDays(mail, 2);
            dueEvent(check, mail, 6, 4, 0, 4);
            dueEvent(check, mail, 8, 4, 1, 4);
        }
    }

    @Says(in = "CHANGES", value = "A successful parse sets the day to 0, restores all initial values, "
            + "clears the undo history and empties both slots.")
    static void parseStartsAnew(Check check) {
        View.dueUnchanged(check, "the same siege parsed again", () -> Check.siege(LOADED), mail -> {
            mail.saveSnapshot(0);
            mail.launch(0, 3);
            passDays(mail, 20);
            mail.launch(1, 0);
            mail.saveSnapshot(1);
            check.due("parse", Check.parse(mail, LOADED), 0);
            check.due("undo()", mail.undo(), false);
            check.due("restoreSnapshot(0)", mail.restoreSnapshot(0), false);
            check.due("restoreSnapshot(1)", mail.restoreSnapshot(1), false);
        });
        BalloonMail mail = Check.siege(LOADED);
        mail.nextDay();
        mail.saveSnapshot(0);
        check.due("an error", Check.parse(mail, "wind"), 1);
        check.due("day() after an error", mail.day(), 1);
        check.due("undoDepth() after an error", mail.undoDepth(), 1);
        check.due("restoreSnapshot(0) after an error", mail.restoreSnapshot(0), true);
        check.due("parse(0)", mail.parse(0), 0);
        check.due("restoreSnapshot(0) after the empty siege", mail.restoreSnapshot(0), false);
        check.due("saveSnapshot(0) in the empty siege", mail.saveSnapshot(0), true);
        check.due("restoreSnapshot(0) in the empty siege", mail.restoreSnapshot(0), true);
    }

    @Says(in = "Promise 46", value = "Saves a snapshot in a slot, in place of an earlier one.")
    static void saves(Check check) {
        BalloonMail mail = Check.siege(RESTLESS);
        for (int slot = 0; slot <= 1; slot++) {
            check.due("saveSnapshot(" + slot + ")", mail.saveSnapshot(slot), true);
            mail.nextDay();
            check.due("saveSnapshot(" + slot + ") in place of it", mail.saveSnapshot(slot), true);
            mail.nextDay();
        }
        check.due("undoDepth(), saving is no change", mail.undoDepth(), 4);
        for (int slot = 0; slot <= 1; slot++) {
            mail.restoreSnapshot(slot);
            check.due("day() of the later one in slot " + slot, mail.day(), 1 + 2 * slot);
        }
    }

    @Says(in = "Promise 46", value = {"- `slot`: 0 or 1", "Returns true; false if there is no such slot."})
    static void refusedSaves(Check check) {
        check.due("saveSnapshot(0) of a new object", new BalloonMail().saveSnapshot(0), true);
        check.due("saveSnapshot(1) of a new object", new BalloonMail().saveSnapshot(1), true);
        int[] wrong = {-1, -2, 2, 3, Integer.MIN_VALUE, Integer.MAX_VALUE};
        for (int slot : wrong) {
            View.dueUnchanged(check, "saveSnapshot(" + slot + ")", () -> after(LOADED, it -> passDays(it, 2)),
                    it -> check.due("saveSnapshot(" + slot + ")", it.saveSnapshot(slot), false));
        }
    }

    @Says(in = "Promise 47", value = "Restores the snapshot of a slot, which stays stored.")
    static void restoresAgain(Check check) {
        BalloonMail mail = after(RESTLESS, it -> passDays(it, 1));
        mail.saveSnapshot(1);
        for (int round = 0; round < 3; round++) {
            passDays(mail, 13);
            check.due("restoreSnapshot(1)", mail.restoreSnapshot(1), true);
            check.due("day()", mail.day(), 1);
        }
        check.due("restoreSnapshot(1) at once again", mail.restoreSnapshot(1), true);
        check.due("day()", mail.day(), 1);
        mail.nextDay();
        mail.undo();
        mail.undo();
        check.due("restoreSnapshot(1) after undos", mail.restoreSnapshot(1), true);
        check.due("day()", mail.day(), 1);
    }

    @Says(in = "Promise 47", value = "The undo history is cleared in any case.")
    static void restoresClearTheHistory(Check check) {
        int[] days = {0, 1, 12, 13};
        for (int passed : days) {
            BalloonMail mail = Check.siege(RESTLESS);
            mail.saveSnapshot(0);
            passDays(mail, passed);
            check.due("undoDepth() before", mail.undoDepth(), Math.min(passed, LATEST_CHANGES));
            check.due("restoreSnapshot(0)", mail.restoreSnapshot(0), true);
            check.due("undoDepth() after", mail.undoDepth(), 0);
            check.due("undo()", mail.undo(), false);
        }
        BalloonMail present = after(RESTLESS, it -> passDays(it, 2));
        present.saveSnapshot(0);
        check.due("restoreSnapshot(0) of the present state", present.restoreSnapshot(0), true);
        check.due("undoDepth() is cleared even then", present.undoDepth(), 0);
        check.due("day()", present.day(), 2);
        present.nextDay();
        check.due("undo() of a change after it", present.undo(), true);
        check.due("undo() of a change before it", present.undo(), false);
    }

    @Says(in = "Promise 47", value = "- `slot`: 0 or 1")
    static void slots(Check check) {
        for (int slot = 0; slot <= 1; slot++) {
            BalloonMail mail = Check.siege(RESTLESS);
            mail.saveSnapshot(slot);
            check.due("restoreSnapshot(" + slot + ")", mail.restoreSnapshot(slot), true);
            check.due("restoreSnapshot of the other slot", mail.restoreSnapshot(1 - slot), false);
            check.due("restoreSnapshot(-1)", mail.restoreSnapshot(-1), false);
            check.due("restoreSnapshot(2)", mail.restoreSnapshot(2), false);
        }
    }

    @Says(in = "Promise 47",
            value = "Returns true; false, with nothing changed, if there is no such slot or it is empty.")
    static void refusedRestores(Check check) {
        int[] wrong = {-1, -2, 1, 2, 3, Integer.MIN_VALUE, Integer.MAX_VALUE};
        for (int slot : wrong) {
            View.dueUnchanged(check, "restoreSnapshot(" + slot + ")", () -> after(LOADED, it -> {
                it.launch(0, 1);
                it.saveSnapshot(0);
                it.nextDay();
            }), mail -> check.due("restoreSnapshot(" + slot + ")", mail.restoreSnapshot(slot), false));
        }
        check.due("restoreSnapshot(0) of a new object", new BalloonMail().restoreSnapshot(0), false);
        check.due("restoreSnapshot(1) of a new object", new BalloonMail().restoreSnapshot(1), false);
    }
}
