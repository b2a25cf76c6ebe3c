/** The boundaries of the siege text: its size, its tokens, its grammar, its limits and the ranges of its numbers. */
public final class TextBoundsTest {
    private static final String REGION = "region 1 1 1;";
    private static final String CONTEXT = REGION + "wind;wind;";
    private static final String[] STATEMENTS = {
        "region 2 2 2", "wind 0 5", "turn 0 1 5", "balloon 5 1", "letter 5 5", "loft 5", "start 1", "seed 5",
    };

    public static void main(String[] args) throws ReflectiveOperationException {
        Bounds.run(TextBoundsTest.class);
    }

    // ---- tokens

    @Says(in = "SIEGE TEXT", value = "A siege is a text of at most 900 bytes.")
    static void sizeOfText(Check check) {
        BalloonMail mail = Check.siege(" ".repeat(888) + "balloon 7 3;");
        check.due("capacity(0) of the last bytes", mail.capacity(0), 7);
        check.bad(" ".repeat(899) + "?", 1, 899);
        check.bad(" ".repeat(896) + "wind", 1, 900);
        Check.append(mail, " ".repeat(895) + "wind;");
        check.due("append beyond 900", mail.append(0, 0, 0, 0, 0), -1);
        check.due("parse(901)", mail.parse(901), -1);
        check.due("parse(900)", mail.parse(900), 0);
        check.due("windCount()", mail.windCount(), 1);
    }

    @Says(in = "SIEGE TEXT",
            value = "Spaces (byte 32) and line feeds (byte 10) separate tokens and are otherwise ignored.")
    static void blanks(Check check) {
        check.good("");
        check.good(" ");
        check.good("\n");
        check.good("\n \n loft\n\n 40  \n;\n ");
        check.bad("wi nd;", 1, 0);
        check.bad("win\nd;", 1, 0);
        check.bad("loft 4 0;", 1, 7);
        check.bad("loft 4\n0;", 1, 7);
        check.bad("loft\t4;", 1, 4);
        check.bad("loft\u000b4;", 1, 4);
        check.bad("loft\r4;", 1, 4);
        check.bad("loft\u001f4;", 1, 4);
        check.bad("loft!4;", 1, 4);
        check.bad("loft\u00a04;", 1, 4);
    }

    @Says(in = "SIEGE TEXT", value = "A token is a word (a maximal run of letters a to z, 1 to 8 letters), "
            + "a number (a maximal run of digits, 1 to 4 digits) or a semicolon.")
    static void tokens(Check check) {
        check.good("loft40;seed9999;region10 9 10;");
        check.good("seed 0;");
        check.good("seed 00;");
        check.good("seed 007;");
        check.good("seed 0007;");
        check.bad("w;", 1, 0);
        check.bad("balloons 1 1;", 1, 0);
        check.bad("loft 1a;", 1, 6);
        check.bad("loft 1loft;", 1, 6);
        check.bad("loft 1;;", 1, 7);
        check.due("letterWeight(0)", Check.siege("letter 0099 0009;").letterWeight(0), 99);
    }

    @Says(in = "SIEGE TEXT",
            value = "A longer run, and any other byte, is an invalid token that starts at its first byte.")
    static void invalidTokens(Check check) {
        check.bad("  letterrrr 1 1;", 1, 2);
        check.bad("loft 1;balloonss 1 1;", 1, 7);
        check.bad("a".repeat(900), 1, 0);
        check.bad("seed 00007;", 1, 5);
        check.bad("seed 10000;", 1, 5);
        check.bad("seed " + "0".repeat(895), 1, 5);
        for (int sign = 0; sign < 256; sign++) {
            String text = "wind" + (char) sign + ";";
            if (sign == ' ' || sign == '\n') {
                check.good(text);
            } else if (sign >= 'a' && sign <= 'z') {
                check.bad(text, 1, 0);
            } else if (sign >= '0' && sign <= '9') {
                check.bad(text, 3, 4);
            } else {
                check.bad(text, 1, sign == ';' ? 5 : 4);
            }
        }
    }

    // ---- grammar

    @Says(in = "SIEGE TEXT", value = "siege     = { statement \";\" }")
    static void sieges(Check check) {
        check.good("");
        check.bad(";", 1, 0);
        check.bad("7;", 1, 0);
        check.bad("siege;", 1, 0);
        StringBuilder all = new StringBuilder(CONTEXT);
        for (String statement : STATEMENTS) {
            check.bad(CONTEXT + statement + ";;", 1, CONTEXT.length() + statement.length() + 1);
            all.append(statement).append(';');
        }
        check.good(all.toString());
    }

    /** A statement with its tokens, with one too few or one too many, and with its word misspelt. */
    private static void statement(Check check, String statement) {
        check.good(CONTEXT + statement + ";");
        check.bad(CONTEXT + statement + " wind;", 1, CONTEXT.length() + statement.length() + 1);
        misspelt(check, statement);
        shortened(check, statement.split(" "));
        if (!statement.startsWith("wind")) {
            check.bad(CONTEXT + statement + " 1;", 1, CONTEXT.length() + statement.length() + 1);
        }
    }

    @Says(in = "SIEGE TEXT", value = "statement = \"region\" risk distance return")
    static void regionStatements(Check check) {
        statement(check, "region 2 2 2");
    }

    @Says(in = "SIEGE TEXT", value = "| \"turn\" wind wind weight")
    static void turnStatements(Check check) {
        statement(check, "turn 0 1 5");
    }

    @Says(in = "SIEGE TEXT", value = "| \"balloon\" capacity pigeons")
    static void balloonStatements(Check check) {
        statement(check, "balloon 5 1");
    }

    @Says(in = "SIEGE TEXT", value = "| \"letter\" weight priority")
    static void letterStatements(Check check) {
        statement(check, "letter 5 5");
    }

    @Says(in = "SIEGE TEXT", value = "| \"loft\" count | \"start\" wind | \"seed\" number")
    static void singleStatements(Check check) {
        statement(check, "loft 5");
        statement(check, "start 1");
        statement(check, "seed 5");
    }

    /** The word with each of its letters changed, left out or doubled. */
    private static void misspelt(Check check, String statement) {
        for (int k = 0; k < statement.indexOf(' '); k++) {
            String before = CONTEXT + statement.substring(0, k);
            String after = statement.substring(k + 1) + ";";
            check.bad(before + 'x' + after, 1, CONTEXT.length());
            check.bad(before + after, 1, CONTEXT.length());
            check.bad(before + statement.charAt(k) + statement.charAt(k) + after, 1, CONTEXT.length());
        }
    }

    /** The statement cut after each of its tokens, by the end of the text or by a semicolon. */
    private static void shortened(Check check, String[] tokens) {
        StringBuilder text = new StringBuilder(CONTEXT);
        for (int k = 0; k < tokens.length; k++) {
            text.append(tokens[k]);
            check.bad(text.toString(), 1, text.length());
            text.append(' ');
            check.bad(text.toString(), 1, text.length());
            boolean complete = k == tokens.length - 1 || tokens[k].equals("wind");
            if (!complete) {
                check.bad(text + ";", 1, text.length());
            }
        }
    }

    @Says(in = "SIEGE TEXT", value = "| \"wind\" { region weight }")
    static void pairsOfWinds(Check check) {
        statement(check, "wind 0 5");
        String regions = REGION.repeat(8);
        String eight = "wind 0 1 1 1 2 1 3 1 4 1 5 1 6 1 7 1";
        check.good(regions + "wind;");
        check.good(regions + "wind 7 1;");
        check.good(regions + eight + ";");
        check.bad(regions + "wind 7;", 1, 110);
        check.bad(regions + "wind 7 1 6;", 1, 114);
        check.bad(regions + eight, 1, 140);
        check.bad(regions + eight + " 7 1;", 2, 141);
        check.bad(regions + eight + " 8 1;", 3, 141);
        check.bad(regions + eight + " x;", 1, 141);
    }

    @Says(in = "SIEGE TEXT", value = "All items without quotes are numbers.")
    static void numbers(Check check) {
        for (String statement : STATEMENTS) {
            String[] tokens = statement.split(" ");
            StringBuilder before = new StringBuilder(CONTEXT).append(tokens[0]).append(' ');
            for (int k = 1; k < tokens.length; k++) {
                check.bad(before + "a;", 1, before.length());
                check.bad(before + "wind;", 1, before.length());
                check.bad(before + "-1;", 1, before.length());
                before.append(tokens[k]).append(' ');
            }
        }
    }

    @Says(in = "SIEGE TEXT",
            value = "Regions, winds, balloons and letters are numbered from 0, "
                + "each kind in the order of its statements.")
    static void numbering(Check check) {
        BalloonMail mail = Check.siege("balloon 1 0;letter 11 5;region 0 1 1;letter 12 6;wind 0 3;balloon 2 0;"
                + "region 0 1 1;wind 0 1 1 7;balloon 3 0;letter 13 7;start 1;");
        for (int k = 0; k < 3; k++) {
            check.due("capacity(" + k + ")", mail.capacity(k), k + 1);
            check.due("letterWeight(" + k + ")", mail.letterWeight(k), k + 11);
            check.due("priorityOf(letter " + k + ")", mail.priorityOf(1 << k), k + 5);
        }
        check.due("wind()", mail.wind(), 1);
        check.due("landingChance(0, 0)", mail.landingChance(0, 0), 1);
        check.due("landingChance(1, 0)", mail.landingChance(1, 0), 7);
    }

    // ---- limits

    /** The largest siege, of 874 bytes: every kind of statement as often as it may stand. */
    private static String fullSiege() {
        StringBuilder text = new StringBuilder(REGION.repeat(8) + "wind;".repeat(6));
        for (int from = 0; from < 6; from++) {
            for (int to = 0; to < 6; to++) {
                text.append(from == to ? "" : "turn " + from + " " + to + " 2;");
            }
        }
        return text + "balloon 1 1;".repeat(10) + "letter 1 1;".repeat(24) + "loft 40;start 5;seed 9999;";
    }

    @Says(in = "SIEGE TEXT", value = "There are at most 8 regions, 6 winds, 30 turns, 10 balloons and 24 letters.")
    static void limits(Check check) {
        String full = fullSiege();
        check.due("bytes of the full siege", full.length(), 874);
        BalloonMail mail = Check.siege(full);
        check.due("regionCount()", mail.regionCount(), 8);
        check.due("windCount()", mail.windCount(), 6);
        check.due("balloonCount()", mail.balloonCount(), 10);
        check.due("letterCount()", mail.letterCount(), 24);
        check.due("windChance(4, 1), a turn", mail.windChance(4, 1), 2);
        check.due("windChance(5, 1), no rest", mail.windChance(5, 1), 0);
        String[] more = {REGION, "wind;", "turn 0 1 1;", "balloon 1 1;", "letter 1 1;"};
        for (String statement : more) {
            check.bad(full + statement, 4, 874);
        }
        oneLess(check, full);
    }

    /** With one of a kind taken out there is room for just one. */
    private static void oneLess(Check check, String full) {
        String[] last = {REGION, "turn 5 4 2;", "balloon 1 1;", "letter 1 1;"};
        for (String statement : last) {
            int place = full.lastIndexOf(statement);
            String less = full.substring(0, place) + full.substring(place + statement.length());
            check.good(less + statement);
            check.bad(less + statement + statement, 4, 874);
        }
        check.good("wind;".repeat(5) + "wind;");
        check.bad("wind;".repeat(6) + "wind;", 4, 30);
    }

    @Says(in = "SIEGE TEXT", value = "loft, start and seed can each occur once.")
    static void onceEach(Check check) {
        check.good("loft 1;seed 1;wind;start 0;");
        check.bad("loft 1;seed 1;wind;start 0;loft 1;", 2, 27);
        check.bad("loft 1;seed 1;wind;start 0;seed 1;", 2, 27);
        check.bad("loft 1;seed 1;wind;start 0;start 0;", 2, 27);
        BalloonMail mail = new BalloonMail();
        check.due("a second loft", Check.parse(mail, "loft 1;loft 2;"), 2);
        check.due("one loft in the next text", Check.parse(mail, "loft 3;wind;start 0;seed 1;"), 0);
        check.due("pigeonsInLoft()", mail.pigeonsInLoft(), 3);
        check.due("one of each in the text after it", Check.parse(mail, "loft 4;wind;start 0;seed 1;"), 0);
    }

    // ---- ranges

    /** Both ends of a range are accepted, with leading zeros too; their neighbours have code 3. */
    private static void range(Check check, String before, String after, int low, int high) {
        check.good(before + low + after);
        check.good(before + high + after);
        check.good(before + String.format("%04d", low) + after);
        check.good(before + String.format("%04d", high) + after);
        if (low > 0) {
            check.bad(before + (low - 1) + after, 3, before.length());
            check.bad(before + "0000" + after, 3, before.length());
        }
        if (high < 9999) {
            check.bad(before + (high + 1) + after, 3, before.length());
            check.bad(before + "9999" + after, 3, before.length());
        }
        check.bad(before + "10000" + after, 1, before.length());
    }

    @Says(in = "SIEGE TEXT", value = "risk and return are 0 to 10.")
    static void risksAndReturns(Check check) {
        range(check, "region ", " 1 1;", 0, 10);
        range(check, "region 1 1 ", ";", 0, 10);
    }

    @Says(in = "SIEGE TEXT", value = "distance is 1 to 9.")
    static void distances(Check check) {
        range(check, "region 1 ", " 1;", 1, 9);
    }

    @Says(in = "SIEGE TEXT", value = "region and wind are numbers of objects that earlier statements declared.")
    static void declaredBefore(Check check) {
        for (int number = 1; number <= 8; number++) {
            range(check, REGION.repeat(number) + "wind ", " 1;", 0, number - 1);
        }
        for (int number = 1; number <= 6; number++) {
            range(check, "wind;".repeat(number) + "start ", ";", 0, number - 1);
        }
        check.good("wind;wind;turn 0 1 1;turn 1 0 1;");
        check.bad("wind;wind;turn 2 0 1;", 3, 15);
        check.bad("wind;wind;turn 9999 0 1;", 3, 15);
        check.bad("wind;wind;turn 0 2 1;", 3, 17);
        check.bad("wind;wind;turn 0 9999 1;", 3, 17);
        check.bad("wind 0 1;" + REGION, 3, 5);
        check.bad("turn 0 1 1;wind;wind;", 3, 5);
        check.bad("wind;turn 1 0 1;wind;", 3, 10);
        check.bad("wind;turn 0 1 1;wind;", 3, 12);
        check.bad("start 0;wind;", 3, 6);
        check.bad("wind;start 1;wind;", 3, 11);
    }

    @Says(in = "SIEGE TEXT", value = "Weights of regions and turns are 1 to 10.")
    static void weights(Check check) {
        range(check, REGION + "wind 0 ", ";", 1, 10);
        range(check, "wind;wind;turn 0 1 ", ";", 1, 10);
    }

    @Says(in = "SIEGE TEXT", value = "The sum of the weights in a wind statement is at most 10, "
            + "and so is the sum of the weights of all turns with the same first wind.")
    static void sums(Check check) {
        String regions = REGION.repeat(3);
        check.good(regions + "wind 0 5 1 4 2 1;");
        check.bad(regions + "wind 0 5 1 4 2 2;", 3, 54);
        check.bad(regions + "wind 0 5 1 6 2 1;", 3, 50);
        check.bad(regions + "wind 0 10 1 1;", 3, 51);
        check.good(regions + "wind 0 10;wind 0 10;wind 1 10;");
        String winds = "wind;wind;wind;wind;";
        check.good(winds + "turn 0 1 5;turn 0 2 4;turn 0 3 1;");
        check.bad(winds + "turn 0 1 5;turn 0 2 4;turn 0 3 2;", 3, 51);
        check.bad(winds + "turn 0 1 5;turn 0 2 6;turn 0 3 1;", 3, 40);
        check.good(winds + "turn 0 1 10;turn 1 0 10;turn 2 0 10;turn 3 0 10;");
        check.good(winds + "turn 0 1 5;turn 1 2 10;turn 0 2 5;turn 2 1 10;");
        check.bad(winds + "turn 0 1 5;turn 1 2 10;turn 0 2 6;", 3, 52);
        check.bad(winds + "turn 0 1 10;turn 0 2 1;", 3, 41);
    }

    @Says(in = "SIEGE TEXT", value = "capacity is 1 to 999.")
    static void capacities(Check check) {
        range(check, "balloon ", " 1;", 1, 999);
    }

    @Says(in = "SIEGE TEXT", value = "pigeons is 0 to 4.")
    static void pigeons(Check check) {
        range(check, "balloon 1 ", ";", 0, 4);
    }

    @Says(in = "SIEGE TEXT", value = "The weight of a letter is 1 to 99.")
    static void letterWeights(Check check) {
        range(check, "letter ", " 1;", 1, 99);
    }

    @Says(in = "SIEGE TEXT", value = "priority is 1 to 9.")
    static void priorities(Check check) {
        range(check, "letter 1 ", ";", 1, 9);
    }

    @Says(in = "SIEGE TEXT", value = "count is 0 to 40 (8 without the statement).")
    static void lofts(Check check) {
        range(check, "loft ", ";", 0, 40);
        check.due("loft 0", Check.siege("loft 0;").pigeonsInLoft(), 0);
        check.due("loft 40", Check.siege("loft 40;").pigeonsInLoft(), 40);
        BalloonMail mail = Check.siege("loft 7;");
        check.due("parse without loft", Check.parse(mail, "wind;"), 0);
        check.due("without loft", mail.pigeonsInLoft(), 8);
    }

    @Says(in = "SIEGE TEXT", value = "The number of seed is 0 to 9999 (1 without the statement).")
    static void seeds(Check check) {
        range(check, "seed ", ";", 0, 9999);
        for (int seed = 0; seed <= 9999; seed += 1111) {
            dueDraws(check, Check.siege(winds("seed " + seed + ";")), seed);
        }
        BalloonMail mail = Check.siege("seed 77;");
        check.due("parse without seed", Check.parse(mail, winds("")), 0);
        dueDraws(check, mail, 1);
    }

    /** The wind turns from 0 to the number of the draw, up to 4, and from there always back. */
    private static String winds(String end) {
        return "wind;".repeat(6) + "turn 0 1 1;turn 0 2 1;turn 0 3 1;turn 0 4 1;turn 0 5 1;"
                + "turn 1 0 10;turn 2 0 10;turn 3 0 10;turn 4 0 10;turn 5 0 10;" + end;
    }

    private static void dueDraws(Check check, BalloonMail mail, int seed) {
        int wind = 0;
        for (int draw : Bounds.draws(seed, 40)) {
            wind = wind != 0 || draw > 4 ? 0 : draw + 1;
            check.due("nextDay() from the seed " + seed, mail.nextDay(), wind);
        }
    }

    @Says(in = "SIEGE TEXT", value = "Without the statement start, the wind at the start is wind 0.")
    static void starts(Check check) {
        check.due("start 5", Check.siege("wind;".repeat(6) + "start 5;").wind(), 5);
        check.due("start 0", Check.siege("wind;".repeat(6) + "start 0;").wind(), 0);
        BalloonMail mail = Check.siege("wind;wind;start 1;wind;");
        check.due("start 1", mail.wind(), 1);
        check.due("parse without start", Check.parse(mail, "wind;wind;"), 0);
        check.due("without start", mail.wind(), 0);
        check.due("parse without winds", Check.parse(mail, "loft 1;"), 0);
        check.due("without winds", mail.wind(), -2);
    }

    // ---- errors

    @Says(in = "SIEGE TEXT", value = {"Parse errors have these codes.",
        "1: an invalid token, a token that the grammar does not allow at this place, or a text that ends too early."})
    static void errorsOfGrammar(Check check) {
        check.bad("wind 12345;", 1, 5);
        check.bad("wind windwindw;", 1, 5);
        check.bad("wind,", 1, 4);
        check.bad("wind wind;", 1, 5);
        check.bad("wind; 5 wind;", 1, 6);
        check.bad("wind", 1, 4);
        check.bad("loft", 1, 4);
        check.bad("loft 1", 1, 6);
        check.bad("loft 1;wind", 1, 11);
    }

    @Says(in = "SIEGE TEXT", value = "2: a region that this wind statement named before;")
    static void regionsNamedBefore(Check check) {
        check.bad(REGION + "wind 0 1 0 1;", 2, 22);
        check.bad(REGION + "wind 0 10 0 1;", 2, 23);
        check.bad(REGION + "wind 0 1 0", 2, 22);
        check.bad(REGION + REGION + "wind 1 1 0 1 1 1;", 2, 39);
        check.good(REGION + "wind 0 1;wind 0 1;");
    }

    @Says(in = "SIEGE TEXT", value = "the second wind of a turn if it is the first one, "
            + "or if a turn with the same two winds in this order was declared before;")
    static void turnsNamedBefore(Check check) {
        check.bad("wind;turn 0 0 1;", 2, 12);
        check.bad("wind;turn 0 0", 2, 12);
        check.bad("wind;wind;turn 1 1 1;", 2, 17);
        check.bad("wind;wind;turn 0 1 1;turn 0 1 1;", 2, 28);
        check.bad("wind;wind;turn 0 1 10;turn 0 1 1;", 2, 29);
        check.bad("wind;wind;turn 0 1 1;turn 1 0 1;turn 1 0 1;", 2, 39);
        check.good("wind;wind;turn 0 1 1;turn 1 0 1;");
    }

    @Says(in = "SIEGE TEXT", value = "the word loft, start or seed of a second such statement.")
    static void statementsNamedBefore(Check check) {
        String full = fullSiege();
        check.bad(full + "loft 40;", 2, 874);
        check.bad(full + "start 5;", 2, 874);
        check.bad(full + "seed 9999;", 2, 874);
        check.bad("loft 1;loft", 2, 7);
        check.bad("loft 1;loft 99;", 2, 7);
        check.bad("wind;start 0;wind;start 1;", 2, 18);
        check.bad("seed 1;loft 1;seed", 2, 14);
    }

    @Says(in = "SIEGE TEXT", value = "3: a number out of its range, also a weight that makes a sum exceed 10.")
    static void errorsOfRange(Check check) {
        check.bad("balloon 1 5;", 3, 10);
        check.bad("balloon 1 5", 3, 10);
        check.bad("balloon 0", 3, 8);
        check.bad(REGION + REGION + "wind 0 9 1 2;", 3, 37);
        check.bad("wind;wind;wind;turn 0 1 9;turn 0 2 2;", 3, 35);
        check.bad("wind;wind;wind;turn 0 1 9;turn 0 2 2", 3, 35);
    }

    @Says(in = "SIEGE TEXT",
            value = "4: the word region, wind, turn, balloon or letter of a statement beyond a limit.")
    static void errorsOfLimits(Check check) {
        check.bad(REGION.repeat(8) + "region", 4, 104);
        check.bad(REGION.repeat(8) + "region 99", 4, 104);
        check.bad("wind;".repeat(6) + "wind", 4, 30);
        check.bad("wind;".repeat(6) + "wind 9 9 9", 4, 30);
        check.bad("balloon 1 1;".repeat(10) + "balloon;", 4, 120);
        check.bad("letter 1 1;".repeat(24) + "letter ?", 4, 264);
        String turns = fullSiege().substring(0, 104 + 30 + 330);
        check.bad(turns + "turn", 4, 464);
        check.bad(turns + "turn 0 0 99;", 4, 464);
    }

    @Says(in = "SIEGE TEXT", value = "The error with the smallest position is reported.")
    static void firstError(Check check) {
        check.bad("loft 41;?", 3, 5);
        check.bad("? loft 41;", 1, 0);
        check.bad("loft 1;loft 41;", 2, 7);
        check.bad("loft 41;loft 41;", 3, 5);
        check.bad("letter 100 10;", 3, 7);
        check.bad("letter 100", 3, 7);
        check.bad("turn 9 9 11;", 3, 5);
        check.bad("wind;".repeat(7) + "loft 41;", 4, 30);
        check.bad("loft 41;" + "wind;".repeat(7), 3, 5);
    }

    @Says(in = "SIEGE TEXT", value = "If several codes apply at one position, the smallest is reported.")
    static void smallestCode(Check check) {
        check.bad(REGION.repeat(8) + "wind region;", 1, 109);
        check.bad("wind;".repeat(6) + "loft wind;", 1, 35);
        check.bad("loft 1 loft 1;", 1, 7);
        check.bad("seed 1;seed", 2, 7);
        check.bad("wind;start 0;wind start 0;", 1, 18);
        check.bad("loft 99999;", 1, 5);
        check.bad("letter 1 1;".repeat(24) + "letter 1 1 letter", 4, 264);
        check.bad("letter 1 1;".repeat(23) + "letter 1 1 letter", 1, 264);
    }

    @Says(in = "SIEGE TEXT", value = "The position of an error is the index of the first byte of its token; "
            + "if the text ends too early, it is the length of the text.")
    static void positions(Check check) {
        check.bad("?", 1, 0);
        check.bad("loft 0041;", 3, 5);
        check.bad("loft   9999  ;", 3, 7);
        check.bad("wind \n\n", 1, 7);
        check.bad("wind\n", 1, 5);
        BalloonMail mail = new BalloonMail();
        String text = "balloon 12 3;wind;";
        int[] lengths = {1, 6, 7, 8, 9, 10, 11, 12, 14, 17};
        int[] places = {0, 0, 7, 8, 9, 10, 11, 12, 13, 17};
        for (int k = 0; k < lengths.length; k++) {
            Check.append(mail, text);
            check.due("parse of the first " + lengths[k] + " bytes", mail.parse(lengths[k]), 1);
            check.due("errorPosition() of the first " + lengths[k], mail.errorPosition(), places[k]);
        }
        Check.append(mail, text);
        check.due("parse of the first 13 bytes", mail.parse(13), 0);
    }
}
