/** Promises 1 to 10: the new object, the input buffer, the grammar with its errors, the counts. */
public final class SiegeTest {
    private static final String REGION = "region 1 1 1;";
    private static final String TWO_REGIONS = REGION + REGION;
    private static final String TWO_WINDS = "wind;wind;";

    private static final Check CHECK = new Check("SiegeTest");

    public static void main(String[] args) {
        newObject();
        append();
        appendTakesTheMostSignificantByteFirst();
        parseAndItsBuffer();
        failedParseChangesNothing();
        parseRestoresInitialValues();
        parseForgetsPigeonsOnTheWay();
        siegesOneAfterAnother();
        errorPosition();
        tokens();
        regionsAndWinds();
        turns();
        balloonsAndLetters();
        statementsThatOccurOnce();
        limits();
        severalErrors();
        countsAndValues();
        CHECK.finish();
    }

    private static void due(String call, long got, long want) {
        CHECK.due(call, got, want);
    }

    private static void good(String text) {
        CHECK.good(text);
    }

    private static void bad(String text, int code, int position) {
        CHECK.bad(text, code, position);
    }

    private static void newObject() {
        BalloonMail mail = new BalloonMail();
        due("errorPosition()", mail.errorPosition(), -2);
        due("regionCount()", mail.regionCount(), 0);
        due("windCount()", mail.windCount(), 0);
        due("balloonCount()", mail.balloonCount(), 0);
        due("letterCount()", mail.letterCount(), 0);
        due("pigeonsInLoft()", mail.pigeonsInLoft(), 8);
        due("pigeonsOnTheWay()", mail.pigeonsOnTheWay(), 0);
        due("pigeonsLost()", mail.pigeonsLost(), 0);
        due("day()", mail.day(), 0);
        due("wind()", mail.wind(), -2);
        due("eventCount()", mail.eventCount(), 0);
        due("undoDepth()", mail.undoDepth(), 0);
        due("lettersIn(0)", mail.lettersIn(0), 0);
        due("weightOf(0)", mail.weightOf(0), 0);
        due("answeredPriority()", mail.answeredPriority(), 0);
        due("parse(1) of an empty buffer", mail.parse(1), -1);
        due("parse(0) of an empty buffer", mail.parse(0), 0);
    }

    private static void append() {
        BalloonMail mail = new BalloonMail();
        int spaces = 0x20202020;
        for (int length = 20; length <= 900; length += 20) {
            due("append", mail.append(spaces, spaces, spaces, spaces, spaces), length);
        }
        due("append beyond 900", mail.append(1, 2, 3, 4, 5), -1);
        due("parse(901)", mail.parse(901), -1);
        due("parse(900)", mail.parse(900), 0);
        due("append after parse", mail.append(spaces, spaces, spaces, spaces, spaces), 20);
    }

    private static void appendTakesTheMostSignificantByteFirst() {
        BalloonMail mail = new BalloonMail();
        // "lett" "er 7" "7 9;" "loft" " 12;"
        due("append", mail.append(0x6c657474, 0x65722037, 0x3720393b, 0x6c6f6674, 0x2031323b), 20);
        due("parse(20)", mail.parse(20), 0);
        due("letterWeight(0)", mail.letterWeight(0), 77);
        due("priorityOf(1)", mail.priorityOf(1), 9);
        due("pigeonsInLoft()", mail.pigeonsInLoft(), 12);
        mail.append(0x20202020, 0x2020ff20, 0x20202020, 0x20202020, 0x20202020);
        due("parse with a byte 255", mail.parse(20), 1);
        due("errorPosition()", mail.errorPosition(), 6);
        mail.append(-1, -1, -1, -1, -1);
        due("parse of the part before the bytes 255", mail.parse(0), 0);
    }

    private static void parseAndItsBuffer() {
        BalloonMail mail = new BalloonMail();
        Check.append(mail, "wind;balloon 5 1;lett");
        due("parse(-1)", mail.parse(-1), -1);
        due("parse(41)", mail.parse(41), -1);
        due("parse(Integer.MAX_VALUE)", mail.parse(Integer.MAX_VALUE), -1);
        due("parse(Integer.MIN_VALUE)", mail.parse(Integer.MIN_VALUE), -1);
        due("windCount() after INVALID", mail.windCount(), 0);
        due("parse(17), the buffer has not changed", mail.parse(17), 0);
        due("windCount()", mail.windCount(), 1);
        due("balloonCount()", mail.balloonCount(), 1);
        due("parse(1), the buffer is empty after a success", mail.parse(1), -1);
        Check.append(mail, "wind");
        due("parse(4)", mail.parse(4), 1);
        due("parse(1), the buffer is empty after an error", mail.parse(1), -1);
        Check.append(mail, "wind;wind;");
        due("parse(0)", mail.parse(0), 0);
        due("windCount() of the empty siege", mail.windCount(), 0);
        due("parse(10), the buffer is empty after parse(0)", mail.parse(10), -1);
    }

    private static void failedParseChangesNothing() {
        BalloonMail mail = Check.siege("region 0 2 10;wind 0 10;wind;turn 0 1 10;turn 1 0 10;start 1;"
                + "balloon 9 1;balloon 8 2;letter 3 4;letter 2 2;loft 7;seed 5;");
        mail.saveSnapshot(1);
        mail.nextDay();
        mail.launch(0, 1);
        due("a failing parse", Check.parse(mail, REGION + TWO_REGIONS + "loft 2;seed 3;balloon 4 4;letter 9"), 1);
        due("regionCount()", mail.regionCount(), 1);
        due("windCount()", mail.windCount(), 2);
        due("balloonCount()", mail.balloonCount(), 2);
        due("letterCount()", mail.letterCount(), 2);
        due("capacity(0)", mail.capacity(0), 9);
        due("pigeonsInLoft()", mail.pigeonsInLoft(), 6);
        due("nextReturn()", mail.nextReturn(), 3);
        due("day()", mail.day(), 1);
        due("wind()", mail.wind(), 0);
        due("undoDepth()", mail.undoDepth(), 2);
        due("eventCount()", mail.eventCount(), 2);
        due("launch(1, 2)", mail.launch(1, 2), 3);
        CHECK.due("restoreSnapshot(1)", mail.restoreSnapshot(1), true);
        due("day() of the snapshot", mail.day(), 0);
    }

    private static void parseRestoresInitialValues() {
        String text = "region 0 2 10;wind 0 10;wind;turn 0 1 10;balloon 9 1;letter 3 4;";
        BalloonMail mail = Check.siege(text + "loft 1;seed 9999;");
        mail.launch(0, 1);
        mail.nextDay();
        mail.nextDay();
        mail.saveSnapshot(0);
        mail.saveSnapshot(1);
        due("answeredPriority()", mail.answeredPriority(), 4);
        due("a second parse", Check.parse(mail, text), 0);
        due("day()", mail.day(), 0);
        due("wind()", mail.wind(), 0);
        due("balloonState(0)", mail.balloonState(0), 0);
        due("balloonRegion(0)", mail.balloonRegion(0), -2);
        due("cargo(0)", mail.cargo(0), 0);
        due("letterState(0)", mail.letterState(0), 0);
        due("answerDay(0)", mail.answerDay(0), -2);
        due("lettersIn(3)", mail.lettersIn(3), 0);
        due("pigeonsInLoft() without loft", mail.pigeonsInLoft(), 8);
        due("eventCount()", mail.eventCount(), 0);
        due("undoDepth()", mail.undoDepth(), 0);
        CHECK.due("undo()", mail.undo(), false);
        CHECK.due("restoreSnapshot(0)", mail.restoreSnapshot(0), false);
        CHECK.due("restoreSnapshot(1)", mail.restoreSnapshot(1), false);
    }

    private static void parseForgetsPigeonsOnTheWay() {
        String text = "region 0 2 5;wind 0 10;" + "balloon 1 1;".repeat(10) + "loft 10;";
        BalloonMail mail = Check.siege(text);
        for (int round = 0; round < 3; round++) {
            for (int balloon = 0; balloon < 10; balloon++) {
                due("launch(" + balloon + ", 0)", mail.launch(balloon, 0), 3);
            }
            due("eventCount()", mail.eventCount(), 10);
            due("pigeonsInLoft()", mail.pigeonsInLoft(), 0);
            due("pigeons on the way or lost", mail.pigeonsOnTheWay() + mail.pigeonsLost(), 10);
            due("nextReturn()", mail.nextReturn(), 2);
            mail.nextDay();
            due("parse", Check.parse(mail, text), 0);
            due("pigeonsOnTheWay()", mail.pigeonsOnTheWay(), 0);
            due("pigeonsLost()", mail.pigeonsLost(), 0);
            due("nextReturn()", mail.nextReturn(), -2);
        }
    }

    /** Nothing of an earlier siege, nor of a text with an error, is left in a later one. */
    private static void siegesOneAfterAnother() {
        String full = TWO_REGIONS + "wind 0 5 1 5;wind 1 10;wind;turn 0 1 10;turn 1 2 9;turn 2 0 10;start 2;"
                + "balloon 9 1;balloon 9 1;letter 2 3;letter 4 5;loft 3;seed 5;";
        BalloonMail mail = Check.siege(full);
        for (int round = 0; round < 3; round++) {
            due("parse of a full siege", Check.parse(mail, full), 0);
            due("wind() of start", mail.wind(), 2);
            due("pigeonsInLoft() of loft", mail.pigeonsInLoft(), 3);
            due("parse with an error", Check.parse(mail, full + full), 2);
            // the draws from the seed 1 begin with 8 8
            due("parse", Check.parse(mail, "region 0 1 1;region 0 1 1;wind 1 5 0 4;wind;turn 0 1 8;balloon 1 0;"), 0);
            due("windCount()", mail.windCount(), 2);
            due("balloonCount()", mail.balloonCount(), 1);
            due("letterCount()", mail.letterCount(), 0);
            due("pigeonsInLoft()", mail.pigeonsInLoft(), 8);
            due("wind()", mail.wind(), 0);
            due("windChance(0, 1)", mail.windChance(0, 1), 2);
            due("landingChance(0, 0)", mail.landingChance(0, 0), 4);
            due("landingChance(NONE, 0)", mail.landingChance(-2, 0), 1);
            due("nextDay()", mail.nextDay(), 0);
            due("launch(0, 0)", mail.launch(0, 0), 3);
            due("balloonRegion(0)", mail.balloonRegion(0), 0);
            due("parse", Check.parse(mail, "wind;"), 0);
            due("regionCount()", mail.regionCount(), 0);
        }
    }

    private static void errorPosition() {
        BalloonMail mail = new BalloonMail();
        due("errorPosition() before any parse", mail.errorPosition(), -2);
        due("parse(1)", mail.parse(1), -1);
        due("errorPosition() after INVALID alone", mail.errorPosition(), -2);
        due("an error", Check.parse(mail, "wind; loft 99;"), 3);
        due("errorPosition()", mail.errorPosition(), 11);
        due("parse(99)", mail.parse(99), -1);
        due("errorPosition() stays after INVALID", mail.errorPosition(), 11);
        due("a success", Check.parse(mail, "wind;"), 0);
        due("errorPosition() after a success", mail.errorPosition(), -2);
        due("parse(99)", mail.parse(99), -1);
        due("errorPosition() stays NONE after INVALID", mail.errorPosition(), -2);
    }

    private static void tokens() {
        good("");
        good(" \n \n ");
        good("\nregion\n1 1  1\n;\n");
        good("region1 1 1;");
        good("region 0001 0009 0010;");
        bad(";", 1, 0);
        bad("5;", 1, 0);
        bad(REGION + ";", 1, 13);
        bad("bird 1;", 1, 0);
        bad("regions 1 1 1;", 1, 0);
        bad("legion 1 1 1;", 1, 0);
        bad("boft 1;", 1, 0);
        bad("lofd 1;", 1, 0);
        bad("win", 1, 0);
        bad("  regionregion 1 1 1;", 1, 2);
        bad("Region 1 1 1;", 1, 0);
        bad("region\t1 1 1;", 1, 6);
        bad("region\r\n1 1 1;", 1, 6);
        bad("region 00001 1 1;", 1, 7);
        bad("region -1 1 1;", 1, 7);
        bad("region 1 1 1,", 1, 12);
        bad("region", 1, 6);
        bad("region  ", 1, 8);
        bad("region 1 1 1", 1, 12);
        bad("region 1 1 1 \n", 1, 14);
        bad("region 1 1;", 1, 10);
        bad("region 1 1 1 1;", 1, 13);
        bad("region 1 1 wind;", 1, 11);
        bad("region 1 1 1 region 1 1 1;", 1, 13);
        bad("wind", 1, 4);
        bad("wind wind;", 1, 5);
        bad("seed 10000;", 1, 5);
        bad("loft;", 1, 4);
        bad("wind\u0000;", 1, 4);
        bad("wind\u0080;", 1, 4);
        bad("wind\u00fb;", 1, 4);
    }

    private static void regionsAndWinds() {
        good("region 0 1 0;");
        good("region 10 9 10;");
        bad("region 11 1 1;", 3, 7);
        bad("region 1 0 1;", 3, 9);
        bad("region 1 10 1;", 3, 9);
        bad("region 1 1 11;", 3, 11);
        good("wind;");
        good(REGION + "wind 0 10;");
        good(TWO_REGIONS + "wind 1 6 0 4;wind 1 1;");
        bad("wind 0 5;", 3, 5);
        bad("wind 0 5;" + REGION, 3, 5);
        bad(REGION + "wind 0;", 1, 19);
        bad(REGION + "wind 0 0;", 3, 20);
        bad(REGION + "wind 0 11;", 3, 20);
        bad(REGION + "wind 1 1;", 3, 18);
        bad(REGION + "wind 0 1 ", 1, 22);
        bad(TWO_REGIONS + "wind 0 6 1 5;", 3, 37);
        bad(TWO_REGIONS + "wind 0 10 1 1;", 3, 38);
        bad(TWO_REGIONS + "wind 0 6 0 1;", 2, 35);
        bad(TWO_REGIONS + "wind 0 6 1 1 0 1;", 2, 39);
        bad(TWO_REGIONS + "wind 2 1;", 3, 31);
        good(REGION.repeat(8) + "wind 7 1 6 1 5 1 4 1 3 1 2 1 1 1 0 3;");
        bad(REGION.repeat(8) + "wind 7 1 6 1 5 1 4 1 3 1 2 1 1 1 0 1 0 1;", 2, 141);
        bad(REGION.repeat(8) + "wind 7 1 6 1 5 1 4 1 3 1 2 1 1 1 0 1 8 1;", 3, 141);
        bad(REGION.repeat(8) + "wind 7 1 6 1 5 1 4 1 3 1 2 1 1 1 0 1 wind", 1, 141);
    }

    private static void turns() {
        good(TWO_WINDS + "turn 0 1 10;turn 1 0 1;");
        bad(TWO_WINDS + "turn 0 0 5;", 2, 17);
        bad(TWO_WINDS + "turn 2 0 5;", 3, 15);
        bad(TWO_WINDS + "turn 0 2 5;", 3, 17);
        bad(TWO_WINDS + "turn 0 1 0;", 3, 19);
        bad(TWO_WINDS + "turn 0 1 11;", 3, 19);
        bad(TWO_WINDS + "turn 0 1;", 1, 18);
        bad(TWO_WINDS + "turn 0 1 5;turn 0 1 5;", 2, 28);
        bad(TWO_WINDS + "turn 0 1 10;turn 0 1 5;", 2, 29);
        bad(TWO_WINDS + "turn 0 1 1;turn 1 0 1;turn 0 1 1;", 2, 39);
        bad("wind;turn 0 1 5;wind;", 3, 12);
        bad("turn 0 1 5;", 3, 5);
        good("wind;wind;wind;turn 0 1 6;turn 1 2 5;turn 0 2 4;");
        bad("wind;wind;wind;turn 0 1 6;turn 1 2 5;turn 0 2 5;", 3, 46);
        bad("wind;wind;wind;turn 0 1 10;turn 0 2 1;", 3, 36);
    }

    private static void balloonsAndLetters() {
        good("balloon 1 0;balloon 999 4;letter 1 1;letter 99 9;");
        bad("balloon 0 1;", 3, 8);
        bad("balloon 1000 1;", 3, 8);
        bad("balloon 5 5;", 3, 10);
        bad("balloon 5;", 1, 9);
        bad("letter 0 1;", 3, 7);
        bad("letter 100 1;", 3, 7);
        bad("letter 1 0;", 3, 9);
        bad("letter 1 10;", 3, 9);
    }

    private static void statementsThatOccurOnce() {
        good("loft 0;seed 0;wind;start 0;");
        good("loft 40;seed 9999;");
        bad("loft 41;", 3, 5);
        bad("start 0;wind;", 3, 6);
        bad("wind;start 1;", 3, 11);
        bad("loft 1;loft 2;", 2, 7);
        bad("loft 1;loft", 2, 7);
        bad("seed 1;loft 1;seed 1;", 2, 14);
        bad("wind;start 0;start 0;", 2, 13);
        bad("loft 1 loft 1;", 1, 7);
    }

    private static void limits() {
        good(REGION.repeat(8));
        bad(REGION.repeat(9), 4, 104);
        bad(REGION.repeat(8) + "region", 4, 104);
        good("wind;".repeat(6));
        bad("wind;".repeat(7), 4, 30);
        good("balloon 1 1;".repeat(10));
        bad("balloon 1 1;".repeat(11), 4, 120);
        good("letter 1 1;".repeat(24));
        bad("letter 1 1;".repeat(25), 4, 264);
        StringBuilder turns = new StringBuilder("wind;".repeat(6));
        for (int pair = 0; pair < 36; pair++) {
            if (pair / 6 != pair % 6) {
                turns.append("turn ").append(pair / 6).append(' ').append(pair % 6).append(" 2;");
            }
        }
        good(turns.toString());
        bad(turns + "turn 0 1 1;", 4, 360);
        bad(turns + "turn 9 9 9;", 4, 360);
        good("balloon 1 1;".repeat(10) + "letter 1 1;".repeat(24) + "wind;".repeat(6)
                + " ".repeat(900 - 120 - 264 - 30));
    }

    private static void severalErrors() {
        bad("loft 99;?", 3, 5);
        bad("letter 100 10;", 3, 7);
        bad("region 1 1 1;wind 0 11 0 1;", 3, 20);
        bad("loft 1;balloon 1 9;loft 1;", 3, 17);
        bad("? loft 99;", 1, 0);
    }

    private static void countsAndValues() {
        BalloonMail mail = Check.siege(TWO_REGIONS + REGION + TWO_WINDS
                + "balloon 12 0;balloon 999 1;balloon 7 2;balloon 8 3;"
                + "letter 4 1;letter 99 2;letter 6 3;letter 7 4;letter 8 5;");
        due("regionCount()", mail.regionCount(), 3);
        due("windCount()", mail.windCount(), 2);
        due("balloonCount()", mail.balloonCount(), 4);
        due("letterCount()", mail.letterCount(), 5);
        due("capacity(0)", mail.capacity(0), 12);
        due("capacity(1)", mail.capacity(1), 999);
        due("capacity(3)", mail.capacity(3), 8);
        due("capacity(4)", mail.capacity(4), -1);
        due("capacity(-1)", mail.capacity(-1), -1);
        due("capacity(MAX)", mail.capacity(Integer.MAX_VALUE), -1);
        due("letterWeight(0)", mail.letterWeight(0), 4);
        due("letterWeight(1)", mail.letterWeight(1), 99);
        due("letterWeight(4)", mail.letterWeight(4), 8);
        due("letterWeight(5)", mail.letterWeight(5), -1);
        due("letterWeight(-1)", mail.letterWeight(-1), -1);
        due("letterWeight(MIN)", mail.letterWeight(Integer.MIN_VALUE), -1);
    }
}
