import java.util.function.Supplier;
import java.util.function.ToIntBiFunction;
import java.util.function.ToIntFunction;

/** The boundaries of promises 1 to 10: the new object, the input buffer, parse and the counts. */
public final class SiegeBoundsTest {
    private static final int BLANKS = 0x20202020;
    private static final String SIEGE = "region 3 2 7;region 0 1 10;"
            + "wind 0 6 1 3;wind 1 9;turn 0 1 4;turn 1 0 5;start 1;"
            + "balloon 20 2;balloon 9 1;balloon 5 0;letter 4 3;letter 5 5;letter 6 2;loft 7;seed 31;";

    public static void main(String[] args) throws ReflectiveOperationException {
        Bounds.run(SiegeBoundsTest.class);
    }

    /** A siege in the middle of things: days, a launch and a snapshot lie behind. */
    private static BalloonMail midwayWithEmptyBuffer() {
        BalloonMail mail = Check.siege(SIEGE);
        mail.saveSnapshot(1);
        mail.nextDay();
        mail.launch(0, 1);
        mail.nextDay();
        return mail;
    }

    private static BalloonMail midway() {
        BalloonMail mail = midwayWithEmptyBuffer();
        Check.append(mail, "wind;");
        return mail;
    }

    @Says(in = "Promise 1", value = "Creates a simulator with an empty siege and an empty input buffer.")
    static void newObject(Check check) {
        BalloonMail mail = new BalloonMail();
        check.due("parse(1)", mail.parse(1), -1);
        check.due("the first append", mail.append(BLANKS, BLANKS, BLANKS, BLANKS, BLANKS), 20);
        View.dueUnchanged(check, "parse(0) of the new object", BalloonMail::new, it -> it.parse(0));
        BalloonMail fresh = new BalloonMail();
        check.due("counts", fresh.regionCount() + fresh.windCount() + fresh.balloonCount() + fresh.letterCount(), 0);
        check.due("pigeonsInLoft()", fresh.pigeonsInLoft(), 8);
        Bounds.never(check, "capacity", fresh::capacity);
        Bounds.never(check, "letterWeight", fresh::letterWeight);
        Bounds.never(check, "windChance", wind -> fresh.windChance(wind, 0));
        Bounds.never(check, "landingChance", region -> fresh.landingChance(region, 0));
        Bounds.never(check, "bestDay", fresh::bestDay);
        Bounds.never(check, "bestLoad", fresh::bestLoad);
        Bounds.never(check, "launch", balloon -> fresh.launch(balloon, 0));
        Bounds.never(check, "balloonState", fresh::balloonState);
        Bounds.never(check, "letterState", fresh::letterState);
        Bounds.never(check, "balloonsIn", fresh::balloonsIn);
    }

    // ---- append

    @Says(in = "Promise 2", value = "Appends 20 bytes to the input buffer: "
            + "the four bytes of each argument, the most significant byte first.")
    static void appendedBytes(Check check) {
        for (int place = 0; place < 40; place++) {
            BalloonMail mail = new BalloonMail();
            check.due("append", appendOneOddByte(mail, place), 20);
            check.due("append", appendOneOddByte(mail, place - 20), 40);
            check.due("parse with an odd byte at " + place, mail.parse(40), 1);
            check.due("errorPosition()", mail.errorPosition(), place);
        }
    }

    /** Blanks, and one byte 128, which is the sign of a word if it comes first. */
    private static int appendOneOddByte(BalloonMail mail, int place) {
        int[] words = new int[5];
        for (int k = 0; k < 20; k++) {
            words[k / 4] = words[k / 4] << 8 | (k == place ? 128 : ' ');
        }
        return mail.append(words[0], words[1], words[2], words[3], words[4]);
    }

    @Says(in = "Promise 2",
            value = "Returns the new length of the buffer; INVALID, with nothing appended, if it would exceed 900.")
    static void fullBuffer(Check check) {
        Supplier<BalloonMail> full = () -> {
            BalloonMail mail = new BalloonMail();
            Check.append(mail, "balloon 1 0;" + " ".repeat(876) + "balloon 2 0;");
            return mail;
        };
        BalloonMail mail = new BalloonMail();
        for (int length = 20; length <= 900; length += 20) {
            check.due("append", mail.append(BLANKS, BLANKS, BLANKS, BLANKS, BLANKS), length);
        }
        check.due("append to 900", mail.append(BLANKS, BLANKS, BLANKS, BLANKS, BLANKS), -1);
        BalloonMail twice = full.get();
        check.due("append to 900", twice.append(-1, -1, -1, -1, -1), -1);
        check.due("append to 900 again", twice.append(0, 0, 0, 0, 0), -1);
        check.due("parse(901)", twice.parse(901), -1);
        check.due("parse(900), nothing was appended", twice.parse(900), 0);
        check.due("capacity(0) of the first bytes", twice.capacity(0), 1);
        check.due("capacity(1) of the last bytes", twice.capacity(1), 2);
        check.due("append after parse", twice.append(BLANKS, BLANKS, BLANKS, BLANKS, BLANKS), 20);
        View.dueUnchanged(check, "append to 900", full, it -> it.append(1, 2, 3, 4, 5));
    }

    // ---- parse

    @Says(in = "Promise 3", value = "Parses the first length bytes of the input buffer as a siege.")
    static void firstBytes(Check check) {
        String text = "wind;balloon 7 1;???";
        for (int length = 1; length <= 20; length++) {
            BalloonMail mail = Check.siege(SIEGE);
            Check.append(mail, text);
            int code = length == 5 || length == 17 ? 0 : 1;
            check.due("parse(" + length + ")", mail.parse(length), code);
            if (code == 0) {
                check.due("windCount() of " + length, mail.windCount(), 1);
                check.due("balloonCount() of " + length, mail.balloonCount(), length == 17 ? 1 : 0);
                check.due("regionCount() of " + length, mail.regionCount(), 0);
            }
        }
    }

    @Says(in = "Promise 3", value = "- `length`: 0 to the length of the buffer; 0 gives the empty siege")
    static void lengths(Check check) {
        for (int length = 0; length <= 900; length += 20) {
            BalloonMail mail = new BalloonMail();
            Check.append(mail, " ".repeat(length));
            check.due("parse(-1) of " + length, mail.parse(-1), -1);
            check.due("parse of one byte more than " + length, mail.parse(length + 1), -1);
            check.due("parse of all " + length, mail.parse(length), 0);
        }
        BalloonMail empty = midway();
        check.due("parse(0)", empty.parse(0), 0);
        check.dueText("the empty siege", View.nowAndLater(empty), View.nowAndLater(new BalloonMail()));
    }

    /** Nothing of earlier sieges, nor of texts with errors, is left in a later one. */
    @Says(in = "Promise 3", value = "On success it replaces the current siege.")
    static void success(Check check) {
        String full = "region 5 2 5;wind 0 9;wind 0 5;turn 0 1 5;start 1;loft 12;seed 5;letter 2 3;"
                + "balloon 9 3;".repeat(4);
        String other = "region 5 1 5;wind 0 9;letter 2 3;letter 1 1;" + "balloon 7 2;".repeat(4);
        String[] texts = {SIEGE, full, "", full, other,
            "wind;wind;turn 1 0 9;balloon 9 2;", "region 0 1 10;wind;wind 0 10;turn 0 1 9;balloon 8 2;", SIEGE};
        for (int last = 0; last < texts.length; last++) {
            BalloonMail mail = new BalloonMail();
            for (int k = Math.max(0, last - 3); k < last; k++) {
                check.due("parse", Check.parse(mail, texts[k]), 0);
                flyAll(mail);
                check.due("an error", Check.parse(mail, texts[k] + full + full), 2);
            }
            check.due("parse", Check.parse(mail, texts[last]), 0);
            check.dueText("siege " + last + " after others", View.nowAndLater(mail),
                    View.nowAndLater(Check.siege(texts[last])));
        }
    }

    private static void flyAll(BalloonMail mail) {
        mail.assignmentTotal();
        for (int balloon = 0; balloon < mail.balloonCount(); balloon++) {
            mail.launch(balloon, 0);
        }
        mail.saveSnapshot(0);
        mail.nextDay();
    }

    @Says(in = "Promise 3", value = "On a parse error nothing changes except that the buffer is emptied; "
            + "it is also empty after a success.")
    static void emptiedBuffer(Check check) {
        BalloonMail mail = midway();
        check.due("an error", mail.parse(4), 1);
        check.due("parse(1) after an error", mail.parse(1), -1);
        check.due("append after an error", mail.append(BLANKS, BLANKS, BLANKS, BLANKS, BLANKS), 20);
        check.due("a success", mail.parse(20), 0);
        check.due("parse(1) after a success", mail.parse(1), -1);
        check.due("append after a success", mail.append(BLANKS, BLANKS, BLANKS, BLANKS, BLANKS), 20);
        String[] wrong = {"?", "region 1 1 1;region 1 1 1;region 1 1 1", "loft 1;seed 2;wind;start 0;loft 2;",
            "balloon 1 1;letter 1 1;letter 100 1;", "wind;".repeat(7), "region 0 1 1;wind 0 5 0 5;"};
        for (String text : wrong) {
            BalloonMail failed = midwayWithEmptyBuffer();
            check.due("an error is found in '" + text + "'", Check.parse(failed, text) > 0, true);
            check.dueText("after a parse of '" + text + "'", withoutPosition(View.nowAndLater(failed)),
                    withoutPosition(View.nowAndLater(midwayWithEmptyBuffer())));
        }
    }

    /** The error position alone tells that there was a parse error. */
    private static String withoutPosition(String view) {
        return view.replaceAll("errorPosition\\(\\) = .*", "");
    }

    @Says(in = "Promise 3", value = "Returns 0 on success; the code of the parse error; "
            + "INVALID if length is out of range, and then the buffer does not change either.")
    static void wrongLengths(Check check) {
        int[] wrong = {-1, 21, 900, 901, Integer.MIN_VALUE, Integer.MAX_VALUE};
        for (int length : wrong) {
            BalloonMail mail = midway();
            check.due("parse(" + length + ")", mail.parse(length), -1);
            check.due("parse(5) of the same buffer", mail.parse(5), 0);
            check.due("windCount()", mail.windCount(), 1);
            View.dueUnchanged(check, "parse(" + length + ")", SiegeBoundsTest::midway, it -> it.parse(length));
        }
        BalloonMail mail = new BalloonMail();
        check.due("code 1", Check.parse(mail, "wind"), 1);
        check.due("code 2", Check.parse(mail, "loft 1;loft 1;"), 2);
        check.due("code 3", Check.parse(mail, "loft 41;"), 3);
        check.due("code 4", Check.parse(mail, "wind;".repeat(7)), 4);
        check.due("success", Check.parse(mail, "wind;"), 0);
    }

    // ---- errorPosition

    @Says(in = "Promise 4",
            value = "Returns the position of the parse error of the last call of parse that did not return INVALID.")
    static void positionOfTheLastError(Check check) {
        BalloonMail mail = new BalloonMail();
        Check.parse(mail, "?");
        check.due("errorPosition() at the first byte", mail.errorPosition(), 0);
        Check.parse(mail, "wind");
        check.due("errorPosition() of the later error", mail.errorPosition(), 4);
        check.due("parse(1)", mail.parse(1), -1);
        check.due("errorPosition() after INVALID", mail.errorPosition(), 4);
        mail.nextDay();
        mail.undo();
        check.due("errorPosition() after other calls", mail.errorPosition(), 4);
        Check.parse(mail, " ".repeat(899) + "?");
        check.due("errorPosition() at the last byte", mail.errorPosition(), 899);
        Check.parse(mail, " ".repeat(896) + "wind");
        check.due("errorPosition() at the end", mail.errorPosition(), 900);
    }

    @Says(in = "Promise 4", value = "Returns the position; NONE if that call succeeded or there was none.")
    static void noError(Check check) {
        BalloonMail mail = new BalloonMail();
        check.due("errorPosition() without a parse", mail.errorPosition(), -2);
        check.due("parse(-1)", mail.parse(-1), -1);
        check.due("errorPosition() after INVALID alone", mail.errorPosition(), -2);
        Check.parse(mail, "?");
        check.due("errorPosition() after an error", mail.errorPosition(), 0);
        check.due("parse(0)", mail.parse(0), 0);
        check.due("errorPosition() after the empty siege", mail.errorPosition(), -2);
        check.due("parse(-1)", mail.parse(-1), -1);
        check.due("errorPosition() after a success and INVALID", mail.errorPosition(), -2);
    }

    // ---- counts and values

    private static void counts(Check check, String name, String statement, int most, ToIntFunction<BalloonMail> count) {
        BalloonMail mail = new BalloonMail();
        check.due(name + " of a new object", count.applyAsInt(mail), 0);
        for (int number = 0; number <= most; number++) {
            check.due("parse", Check.parse(mail, statement.repeat(number)), 0);
            check.due(name + " of " + number, count.applyAsInt(mail), number);
        }
        check.due("parse of one more", Check.parse(mail, statement.repeat(most + 1)), 4);
        check.due(name + " after the error", count.applyAsInt(mail), most);
        check.due("parse(0)", mail.parse(0), 0);
        check.due(name + " of the empty siege", count.applyAsInt(mail), 0);
    }

    @Says(in = "Promise 5", value = "Returns the number of regions.")
    static void regionCounts(Check check) {
        counts(check, "regionCount()", "region 1 1 1;", 8, BalloonMail::regionCount);
    }

    @Says(in = "Promise 6", value = "Returns the number of winds.")
    static void windCounts(Check check) {
        counts(check, "windCount()", "wind;", 6, BalloonMail::windCount);
    }

    @Says(in = "Promise 7", value = "Returns the number of balloons.")
    static void balloonCounts(Check check) {
        counts(check, "balloonCount()", "balloon 1 1;", 10, BalloonMail::balloonCount);
    }

    @Says(in = "Promise 8", value = "Returns the number of letters.")
    static void letterCounts(Check check) {
        counts(check, "letterCount()", "letter 1 1;", 24, BalloonMail::letterCount);
    }

    /** One of a kind with the least value, and the most of it with the greatest value in the last one. */
    private static void values(Check check, String name, String word, int most, int greatest,
            ToIntBiFunction<BalloonMail, Integer> value) {
        String others = word.equals("letter") ? "balloon 9 1;balloon 9 1;" : "letter 9 1;letter 9 1;";
        BalloonMail one = Check.siege(word + " 1 1;" + others);
        Bounds.within(check, name + " of one", 0, 0, number -> value.applyAsInt(one, number));
        check.due("the least " + name, value.applyAsInt(one, 0), 1);
        BalloonMail full = Check.siege((word + " 5 1;").repeat(most - 1) + word + " " + greatest + " 1;");
        Bounds.within(check, name + " of " + most, 0, most - 1, number -> value.applyAsInt(full, number));
        check.due("the greatest " + name, value.applyAsInt(full, most - 1), greatest);
        check.due("a smaller siege", Check.parse(full, word + " 7 1;"), 0);
        Bounds.within(check, name + " in the smaller siege", 0, 0, number -> value.applyAsInt(full, number));
        BalloonMail none = Check.siege("wind;" + others);
        Bounds.never(check, name + " of none", number -> value.applyAsInt(none, number));
    }

    @Says(in = "Promise 9", value = {"Returns the capacity of a balloon.",
        "Returns the capacity; INVALID if there is no such balloon."})
    static void capacities(Check check) {
        values(check, "capacity", "balloon", 10, 999, BalloonMail::capacity);
    }

    @Says(in = "Promise 10", value = {"Returns the weight of a letter.",
        "Returns the weight; INVALID if there is no such letter."})
    static void letterWeights(Check check) {
        values(check, "letterWeight", "letter", 24, 99, BalloonMail::letterWeight);
    }
}
