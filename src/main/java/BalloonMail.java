import java.util.Arrays;

/**
 * A simulator and planner for balloon mail out of a besieged city: winds that turn by chance,
 * balloons that are loaded and land by chance, and homing pigeons that bring answers back.
 */
public final class BalloonMail {
    public static final int INVALID = -1;
    public static final int NONE = -2;
    public static final int TOO_HEAVY = -3;
    public static final int NO_PIGEONS = -4;

    private static final int MAX_TEXT = 900;
    private static final int APPENDED_BYTES = 20;
    private static final int MAX_REGIONS = 8;
    private static final int MAX_WINDS = 6;
    private static final int MAX_TURNS = 30;
    private static final int MAX_BALLOONS = 10;
    private static final int MAX_LETTERS = 24;
    private static final int MAX_PIGEONS = 4;
    private static final int MAX_PRIORITY = 9;
    private static final int MAX_LOFT = 40;
    private static final int MAX_EVENTS = 16;
    private static final int MAX_UNDO = 12;
    private static final int SLOTS = 2;
    private static final int LAST_DAY = 8;
    private static final int FORECAST_DAYS = LAST_DAY + 1;
    private static final int WHOLE = 10;

    private static final int READY = 0;
    private static final int IN_THE_SEA = 1;
    private static final int CAPTURED = 2;
    private static final int LANDED = 3;

    private static final int WAITING = 0;
    private static final int LOST = 1;
    private static final int DELIVERED = 2;
    private static final int ANSWERED = 3;
    private static final int LETTER_STATES = 4;

    private static final int PIGEON_BACK = 4;
    private static final int WIND_CHANGED = 5;

    private final byte[] text = new byte[MAX_TEXT];
    private final Reader reader = new Reader();
    private final Chances chances = new Chances();
    private final Planner planner = new Planner();
    private final Loader loader = new Loader();
    private final State current = new State();
    private final State[] history = new State[MAX_UNDO];
    private final State[] slots = new State[SLOTS];
    private final boolean[] slotFilled = new boolean[SLOTS];
    private int textLength;
    private int errorPlace = NONE;
    private int undoable;
    private int newest;
    private Siege siege = new Siege();
    private Siege spare = new Siege();

    public BalloonMail() {
        for (int k = 0; k < history.length; k++) {
            history[k] = new State();
        }
        for (int k = 0; k < slots.length; k++) {
            slots[k] = new State();
        }
        current.begin(siege);
    }

    // ---- siege

    public int append(int a, int b, int c, int d, int e) {
        if (textLength > MAX_TEXT - APPENDED_BYTES) {
            return INVALID;
        }
        appendBytes(a);
        appendBytes(b);
        appendBytes(c);
        appendBytes(d);
        appendBytes(e);
        return textLength;
    }

    private void appendBytes(int four) {
        for (int shift = 24; shift >= 0; shift -= 8) {
            if (textLength >= 0 && textLength < text.length) {
                text[textLength] = (byte) (four >> shift);
                textLength++;
            }
        }
    }

    public int parse(int length) {
        if (length < 0 || length > textLength) {
            return INVALID;
        }
        int code = reader.read(text, length, spare);
        textLength = 0;
        if (code != 0) {
            errorPlace = reader.start;
            return code;
        }
        errorPlace = NONE;
        replaceSiege();
        return 0;
    }

    /** The old siege becomes the spare one, so that a failed parse has a place to write to. */
    private void replaceSiege() {
        Siege old = siege;
        siege = spare;
        spare = old;
        current.begin(siege);
        planner.forget();
        undoable = 0;
        for (int slot = 0; slot < slotFilled.length; slot++) {
            slotFilled[slot] = false;
        }
    }

    public int errorPosition() {
        return errorPlace;
    }

    public int regionCount() {
        return siege.regions;
    }

    public int windCount() {
        return siege.winds.count;
    }

    public int balloonCount() {
        return siege.balloons;
    }

    public int letterCount() {
        return siege.letters;
    }

    public int capacity(int balloon) {
        return siege.hasBalloon(balloon) ? siege.capacity[balloon] : INVALID;
    }

    public int letterWeight(int letter) {
        return siege.hasLetter(letter) ? siege.weight[letter] : INVALID;
    }

    // ---- chances

    public long windChance(int wind, int days) {
        if (!siege.winds.has(wind) || !isForecast(days)) {
            return INVALID;
        }
        chances.lookAhead(siege.winds, current.wind, days, NONE);
        return chances.of(wind);
    }

    public long avoidChance(int wind, int days) {
        if (!siege.winds.has(wind) || !isForecast(days)) {
            return INVALID;
        }
        chances.lookAhead(siege.winds, current.wind, days, wind);
        return chances.sum();
    }

    public long landingChance(int region, int days) {
        boolean known = region == NONE || siege.hasRegion(region);
        if (!known || !canForecast(days)) {
            return INVALID;
        }
        chances.lookAhead(siege.winds, current.wind, days, NONE);
        return chances.comingDown(siege.winds, region == NONE ? Winds.SEA : region);
    }

    public long deliveryChance(int days) {
        if (!canForecast(days)) {
            return INVALID;
        }
        chances.lookAhead(siege.winds, current.wind, days, NONE);
        return chances.delivered(siege);
    }

    public long answerChance(int pigeons, int days) {
        if (!isCrew(pigeons) || !canForecast(days)) {
            return INVALID;
        }
        chances.lookAhead(siege.winds, current.wind, days, NONE);
        return chances.answered(siege, pigeons);
    }

    public int answerPermille(int pigeons, int days) {
        if (!isCrew(pigeons) || !canForecast(days)) {
            return INVALID;
        }
        chances.lookAhead(siege.winds, current.wind, days, NONE);
        long thousandfold = chances.answered(siege, pigeons) * 1000;
        for (int zeros = days + 2 + pigeons; zeros > 0; zeros--) {
            thousandfold /= 10;
        }
        return (int) thousandfold;
    }

    public int bestDay(int pigeons) {
        if (!isCrew(pigeons) || !canForecast(0)) {
            return INVALID;
        }
        int best = 0;
        long greatest = -1;
        chances.begin(current.wind);
        for (int days = 0; days <= LAST_DAY; days++) {
            long chance = chances.answered(siege, pigeons) * power(10, LAST_DAY - days);
            if (chance > greatest) {
                greatest = chance;
                best = days;
            }
            chances.passDay(siege.winds);
        }
        return best;
    }

    public long assignmentTotal() {
        if (siege.winds.count == 0) {
            return INVALID;
        }
        planner.plan(siege, current.wind, current.readyBalloons(siege), chances);
        return planner.total();
    }

    public int assignedDay(int balloon) {
        if (!siege.hasBalloon(balloon) || siege.winds.count == 0) {
            return INVALID;
        }
        planner.plan(siege, current.wind, current.readyBalloons(siege), chances);
        return planner.dayOf(balloon);
    }

    private static boolean isForecast(int days) {
        return days >= 0 && days <= LAST_DAY;
    }

    private static boolean isCrew(int pigeons) {
        return pigeons >= 0 && pigeons <= MAX_PIGEONS;
    }

    private boolean canForecast(int days) {
        return isForecast(days) && siege.winds.count > 0;
    }

    private static long power(int base, int exponent) {
        long product = 1;
        for (int k = 0; k < exponent; k++) {
            product *= base;
        }
        return product;
    }

    // ---- loading

    public int bestLoad(int balloon) {
        if (!siege.hasBalloon(balloon)) {
            return INVALID;
        }
        if (current.balloonState[balloon] != READY) {
            return NONE;
        }
        return loader.best(siege, current.letters[WAITING], siege.capacity[balloon]);
    }

    public int weightOf(int letters) {
        return siege.hasLetters(letters) ? siege.total(siege.weight, letters) : INVALID;
    }

    public int priorityOf(int letters) {
        return siege.hasLetters(letters) ? siege.total(siege.priority, letters) : INVALID;
    }

    public int lettersIn(int state) {
        return isLetterState(state) ? current.letters[state] : INVALID;
    }

    private static boolean isLetterState(int number) {
        return number >= 0 && number < LETTER_STATES;
    }

    // ---- flying

    public int day() {
        return current.day;
    }

    public int wind() {
        return current.wind;
    }

    public int launch(int balloon, int letters) {
        if (!siege.hasBalloon(balloon) || !siege.hasLetters(letters)) {
            return INVALID;
        }
        boolean allWaiting = (letters & ~current.letters[WAITING]) == 0;
        if (current.balloonState[balloon] != READY || !allWaiting || siege.winds.count == 0) {
            return NONE;
        }
        if (siege.total(siege.weight, letters) > siege.capacity[balloon]) {
            return TOO_HEAVY;
        }
        if (current.loft < siege.pigeons[balloon]) {
            return NO_PIGEONS;
        }
        rememberState();
        return current.fly(siege, balloon, letters);
    }

    public int nextDay() {
        rememberState();
        current.passDay(siege);
        return current.wind;
    }

    public int balloonState(int balloon) {
        return siege.hasBalloon(balloon) ? current.balloonState[balloon] : INVALID;
    }

    public int balloonRegion(int balloon) {
        return siege.hasBalloon(balloon) ? current.balloonRegion[balloon] : INVALID;
    }

    public int cargo(int balloon) {
        return siege.hasBalloon(balloon) ? current.cargo[balloon] : INVALID;
    }

    public int letterState(int letter) {
        return siege.hasLetter(letter) ? current.stateOfLetter(letter) : INVALID;
    }

    public int answerDay(int letter) {
        return siege.hasLetter(letter) ? current.answeredOn[letter] : INVALID;
    }

    // ---- pigeons

    public int pigeonsInLoft() {
        return current.loft;
    }

    public int pigeonsOnTheWay() {
        return current.homingPigeons(siege);
    }

    public int pigeonsLost() {
        return current.lost;
    }

    public int nextReturn() {
        return current.earliestReturn(siege);
    }

    // ---- totals and journal

    public int weightIn(int state) {
        if (!isLetterState(state)) {
            return INVALID;
        }
        return siege.total(siege.weight, current.letters[state]);
    }

    public int answeredPriority() {
        return siege.total(siege.priority, current.letters[ANSWERED]);
    }

    public int balloonsIn(int region) {
        return siege.hasRegion(region) ? current.cameDownIn(siege, region) : INVALID;
    }

    public int eventCount() {
        return current.journal.count;
    }

    public int eventKind(int index) throws IndexOutOfBoundsException {
        if (!current.journal.has(index)) {
            throw new IndexOutOfBoundsException("no such event");
        }
        return current.journal.kind[index];
    }

    public int eventNumber(int index) throws IndexOutOfBoundsException {
        if (!current.journal.has(index)) {
            throw new IndexOutOfBoundsException("no such event");
        }
        return current.journal.number[index];
    }

    public int eventDay(int index) throws IndexOutOfBoundsException {
        if (!current.journal.has(index)) {
            throw new IndexOutOfBoundsException("no such event");
        }
        return current.journal.day[index];
    }

    // ---- changes

    public boolean undo() {
        if (undoable <= 0 || newest < 0 || newest >= history.length) {
            return false;
        }
        current.copyFrom(history[newest]);
        newest = newest > 0 ? newest - 1 : MAX_UNDO - 1;
        undoable--;
        return true;
    }

    public int undoDepth() {
        return undoable;
    }

    public boolean saveSnapshot(int slot) {
        if (!isSlot(slot)) {
            return false;
        }
        slots[slot].copyFrom(current);
        slotFilled[slot] = true;
        return true;
    }

    public boolean restoreSnapshot(int slot) {
        if (!isSlot(slot) || !slotFilled[slot]) {
            return false;
        }
        current.copyFrom(slots[slot]);
        undoable = 0;
        return true;
    }

    private static boolean isSlot(int slot) {
        return slot >= 0 && slot < SLOTS;
    }

    /** The history is a ring: the thirteenth change takes the place of the oldest one. */
    private void rememberState() {
        newest = newest >= 0 && newest < MAX_UNDO - 1 ? newest + 1 : 0;
        history[newest].copyFrom(current);
        if (undoable < MAX_UNDO) {
            undoable++;
        }
    }

    /** What a siege text declares. */
    private static final class Siege {
        private static final int USUAL_LOFT = 8;
        private static final int USUAL_SEED = 1;

        final Winds winds = new Winds();
        final int[] risk = new int[MAX_REGIONS];
        final int[] distance = new int[MAX_REGIONS];
        final int[] comeback = new int[MAX_REGIONS];
        final int[] capacity = new int[MAX_BALLOONS];
        final int[] pigeons = new int[MAX_BALLOONS];
        final int[] weight = new int[MAX_LETTERS];
        final int[] priority = new int[MAX_LETTERS];
        int regions;
        int balloons;
        int letters;
        int loft = USUAL_LOFT;
        int start;
        int seed = USUAL_SEED;

        void clear() {
            winds.clear();
            regions = 0;
            balloons = 0;
            letters = 0;
            loft = USUAL_LOFT;
            start = 0;
            seed = USUAL_SEED;
        }

        boolean hasRegion(int region) {
            return region >= 0 && region < regions;
        }

        boolean hasBalloon(int balloon) {
            return balloon >= 0 && balloon < balloons;
        }

        boolean hasLetter(int letter) {
            return letter >= 0 && letter < letters;
        }

        boolean hasLetters(int set) {
            return set >>> letters == 0;
        }

        void addRegion(int itsRisk, int itsDistance, int itsComeback) {
            if (regions < MAX_REGIONS) {
                risk[regions] = itsRisk;
                distance[regions] = itsDistance;
                comeback[regions] = itsComeback;
                regions++;
            }
        }

        void addBalloon(int itsCapacity, int itsPigeons) {
            if (balloons < MAX_BALLOONS) {
                capacity[balloons] = itsCapacity;
                pigeons[balloons] = itsPigeons;
                balloons++;
            }
        }

        void addLetter(int itsWeight, int itsPriority) {
            if (letters < MAX_LETTERS) {
                weight[letters] = itsWeight;
                priority[letters] = itsPriority;
                letters++;
            }
        }

        /** The sum of what a row of the letters holds for the letters of a set. */
        int total(int[] row, int set) {
            int sum = 0;
            for (int letter = 0; letter < letters && letter < row.length; letter++) {
                if ((set >> letter & 1) == 1) {
                    sum += row[letter];
                }
            }
            return sum;
        }
    }

    /**
     * The winds: how they turn and where they carry balloons, all in tenths. Each row is kept
     * twice, as a table for the chances and in the order of declaration for the draws.
     */
    private static final class Winds {
        static final int SEA = MAX_REGIONS;
        private static final int PLACES = MAX_REGIONS + 1;

        int count;
        int turnCount;
        private final int[] turnFrom = new int[MAX_TURNS];
        private final int[] turnTo = new int[MAX_TURNS];
        private final int[] follow = new int[MAX_WINDS * MAX_WINDS];
        private final int[] land = new int[MAX_WINDS * PLACES];
        private final int[] aimCount = new int[MAX_WINDS];
        private final int[] aim = new int[MAX_WINDS * MAX_REGIONS];

        void clear() {
            count = 0;
            turnCount = 0;
        }

        boolean has(int wind) {
            return wind >= 0 && wind < count;
        }

        /** A new wind stays for ever and blows out to the sea, until turns and regions take their share. */
        void add() {
            if (count < MAX_WINDS) {
                for (int wind = 0; wind < MAX_WINDS; wind++) {
                    follow[count * MAX_WINDS + wind] = wind == count ? WHOLE : 0;
                }
                for (int place = 0; place < PLACES; place++) {
                    land[count * PLACES + place] = place == SEA ? WHOLE : 0;
                }
                aimCount[count] = 0;
                count++;
            }
        }

        int followTenths(int from, int to) {
            if (from < 0 || from >= count || to < 0 || to >= count) {
                return 0;
            }
            return follow[from * MAX_WINDS + to];
        }

        int landTenths(int wind, int place) {
            if (wind < 0 || wind >= count || place < 0 || place >= PLACES) {
                return 0;
            }
            return land[wind * PLACES + place];
        }

        void addTurn(int from, int to, int tenths) {
            if (has(from) && has(to) && turnCount < MAX_TURNS) {
                turnFrom[turnCount] = from;
                turnTo[turnCount] = to;
                turnCount++;
                follow[from * MAX_WINDS + to] += tenths;
                follow[from * MAX_WINDS + from] -= tenths;
            }
        }

        void addAim(int wind, int region, int tenths) {
            if (!has(wind) || region < 0 || region >= MAX_REGIONS) {
                return;
            }
            int index = aimCount[wind];
            if (index >= 0 && index < MAX_REGIONS) {
                aim[wind * MAX_REGIONS + index] = region;
                aimCount[wind] = index + 1;
                land[wind * PLACES + region] += tenths;
                land[wind * PLACES + SEA] -= tenths;
            }
        }

        int chooseWind(int from, int draw) {
            int rest = draw;
            for (int turn = 0; turn < turnCount && turn < MAX_TURNS; turn++) {
                if (turnFrom[turn] == from) {
                    int tenths = followTenths(from, turnTo[turn]);
                    if (rest < tenths) {
                        return turnTo[turn];
                    }
                    rest -= tenths;
                }
            }
            return from;
        }

        int chooseRegion(int wind, int draw) {
            if (!has(wind)) {
                return NONE;
            }
            int rest = draw;
            for (int k = 0; k < aimCount[wind] && k < MAX_REGIONS; k++) {
                int region = aim[wind * MAX_REGIONS + k];
                int tenths = landTenths(wind, region);
                if (rest < tenths) {
                    return region;
                }
                rest -= tenths;
            }
            return NONE;
        }
    }

    /** Reads a siege text; the token at which it stops is the one with the error. */
    private static final class Reader {
        private static final int NOT_ALLOWED = 1;
        private static final int NAMED_BEFORE = 2;
        private static final int OUT_OF_RANGE = 3;
        private static final int BEYOND_LIMIT = 4;

        private static final int END = 0;
        private static final int WORD = 1;
        private static final int NUMBER = 2;
        private static final int SEMICOLON = 3;
        private static final int BAD = 4;
        private static final int MAX_WORD = 8;
        private static final int MAX_DIGITS = 4;

        int start;
        private byte[] text = new byte[0];
        private int end;
        private int place;
        private int kind;
        private int value;
        private int code;
        private boolean loftRead;
        private boolean startRead;
        private boolean seedRead;

        /** Answers 0 or the code of the error, whose position is then the start of the last token. */
        int read(byte[] bytes, int length, Siege siege) {
            siege.clear();
            text = bytes;
            end = Math.min(length, bytes.length);
            place = 0;
            code = 0;
            loftRead = false;
            startRead = false;
            seedRead = false;
            for (int statement = 0; statement <= end; statement++) {
                nextToken();
                if (kind == END) {
                    return 0;
                }
                if (!readStatement(siege) || !endStatement()) {
                    return code;
                }
            }
            return code;
        }

        private boolean fail(int errorCode) {
            code = errorCode;
            return false;
        }

        private boolean readStatement(Siege siege) {
            if (kind != WORD) {
                return fail(NOT_ALLOWED);
            }
            if (spells("region")) {
                return readRegion(siege);
            }
            if (spells("wind")) {
                return readWind(siege);
            }
            if (spells("turn")) {
                return readTurn(siege.winds);
            }
            if (spells("balloon")) {
                return readBalloon(siege);
            }
            if (spells("letter")) {
                return readLetter(siege);
            }
            if (spells("loft")) {
                return readLoft(siege);
            }
            if (spells("start")) {
                return readStart(siege);
            }
            if (spells("seed")) {
                return readSeed(siege);
            }
            return fail(NOT_ALLOWED);
        }

        private boolean readRegion(Siege siege) {
            if (siege.regions >= MAX_REGIONS) {
                return fail(BEYOND_LIMIT);
            }
            if (!readNumber(0, 10)) {
                return false;
            }
            int risk = value;
            if (!readNumber(1, 9)) {
                return false;
            }
            int distance = value;
            if (!readNumber(0, 10)) {
                return false;
            }
            siege.addRegion(risk, distance, value);
            return true;
        }

        private boolean readWind(Siege siege) {
            int wind = siege.winds.count;
            if (wind >= MAX_WINDS) {
                return fail(BEYOND_LIMIT);
            }
            siege.winds.add();
            for (int named = 0; named <= MAX_REGIONS; named++) {
                nextToken();
                if (kind == SEMICOLON) {
                    return true;
                }
                if (!readAim(siege, wind)) {
                    return false;
                }
            }
            return fail(NOT_ALLOWED);
        }

        private boolean readAim(Siege siege, int wind) {
            if (!isNumber(0, siege.regions - 1)) {
                return false;
            }
            int region = value;
            if (siege.winds.landTenths(wind, region) > 0) {
                return fail(NAMED_BEFORE);
            }
            if (!readNumber(1, siege.winds.landTenths(wind, Winds.SEA))) {
                return false;
            }
            siege.winds.addAim(wind, region, value);
            return true;
        }

        private boolean readTurn(Winds winds) {
            if (winds.turnCount >= MAX_TURNS) {
                return fail(BEYOND_LIMIT);
            }
            if (!readNumber(0, winds.count - 1)) {
                return false;
            }
            int from = value;
            if (!readNumber(0, winds.count - 1)) {
                return false;
            }
            int to = value;
            if (from == to || winds.followTenths(from, to) > 0) {
                return fail(NAMED_BEFORE);
            }
            if (!readNumber(1, winds.followTenths(from, from))) {
                return false;
            }
            winds.addTurn(from, to, value);
            return true;
        }

        private boolean readBalloon(Siege siege) {
            if (siege.balloons >= MAX_BALLOONS) {
                return fail(BEYOND_LIMIT);
            }
            if (!readNumber(1, 999)) {
                return false;
            }
            int capacity = value;
            if (!readNumber(0, MAX_PIGEONS)) {
                return false;
            }
            siege.addBalloon(capacity, value);
            return true;
        }

        private boolean readLetter(Siege siege) {
            if (siege.letters >= MAX_LETTERS) {
                return fail(BEYOND_LIMIT);
            }
            if (!readNumber(1, 99)) {
                return false;
            }
            int weight = value;
            if (!readNumber(1, MAX_PRIORITY)) {
                return false;
            }
            siege.addLetter(weight, value);
            return true;
        }

        private boolean readLoft(Siege siege) {
            if (loftRead) {
                return fail(NAMED_BEFORE);
            }
            loftRead = true;
            if (!readNumber(0, MAX_LOFT)) {
                return false;
            }
            siege.loft = value;
            return true;
        }

        private boolean readStart(Siege siege) {
            if (startRead) {
                return fail(NAMED_BEFORE);
            }
            startRead = true;
            if (!readNumber(0, siege.winds.count - 1)) {
                return false;
            }
            siege.start = value;
            return true;
        }

        private boolean readSeed(Siege siege) {
            if (seedRead) {
                return fail(NAMED_BEFORE);
            }
            seedRead = true;
            if (!readNumber(0, 9999)) {
                return false;
            }
            siege.seed = value;
            return true;
        }

        private boolean readNumber(int low, int high) {
            nextToken();
            return isNumber(low, high);
        }

        private boolean isNumber(int low, int high) {
            if (kind != NUMBER) {
                return fail(NOT_ALLOWED);
            }
            if (value < low || value > high) {
                return fail(OUT_OF_RANGE);
            }
            return true;
        }

        /** A wind statement has already read its semicolon: only there it sees that no region follows. */
        private boolean endStatement() {
            if (kind != SEMICOLON) {
                nextToken();
            }
            return kind == SEMICOLON || fail(NOT_ALLOWED);
        }

        /** A token ends where the next one starts: letters and digits need no blank between them. */
        private void nextToken() {
            while (place < end && (text[place] == ' ' || text[place] == '\n')) {
                place++;
            }
            start = place;
            if (place >= end) {
                kind = END;
                return;
            }
            int sign = text[place];
            if (sign >= 'a' && sign <= 'z') {
                passRun('a', 'z');
                kind = place - start <= MAX_WORD ? WORD : BAD;
            } else if (sign >= '0' && sign <= '9') {
                passRun('0', '9');
                kind = place - start <= MAX_DIGITS ? NUMBER : BAD;
                value = kind == NUMBER ? numberRead() : 0;
            } else {
                place++;
                kind = sign == ';' ? SEMICOLON : BAD;
            }
        }

        private void passRun(char first, char last) {
            while (place < end && text[place] >= first && text[place] <= last) {
                place++;
            }
        }

        private int numberRead() {
            int number = 0;
            for (int k = start; k < place; k++) {
                number = number * 10 + (text[k] - '0');
            }
            return number;
        }

        private boolean spells(String word) {
            if (place - start != word.length()) {
                return false;
            }
            for (int k = 0; k < word.length(); k++) {
                if (text[start + k] != word.charAt(k)) {
                    return false;
                }
            }
            return true;
        }
    }

    /** The chances of the winds on a day to come, and what follows from them, as exact numerators. */
    private static final class Chances {
        private final long[] now = new long[MAX_WINDS];
        private final long[] then = new long[MAX_WINDS];

        /** The shunned wind may not occur from today on; NONE shuns no wind. */
        void lookAhead(Winds winds, int wind, int days, int shunned) {
            begin(wind);
            shun(shunned);
            for (int k = 0; k < days; k++) {
                passDay(winds);
                shun(shunned);
            }
        }

        void begin(int wind) {
            for (int k = 0; k < now.length; k++) {
                now[k] = k == wind ? 1 : 0;
            }
        }

        private void shun(int wind) {
            if (wind >= 0 && wind < now.length) {
                now[wind] = 0;
            }
        }

        void passDay(Winds winds) {
            for (int to = 0; to < then.length; to++) {
                long sum = 0;
                for (int from = 0; from < winds.count && from < now.length; from++) {
                    sum += now[from] * winds.followTenths(from, to);
                }
                then[to] = sum;
            }
            System.arraycopy(then, 0, now, 0, now.length);
        }

        long of(int wind) {
            return wind >= 0 && wind < now.length ? now[wind] : 0;
        }

        long sum() {
            long sum = 0;
            for (int wind = 0; wind < now.length; wind++) {
                sum += now[wind];
            }
            return sum;
        }

        long comingDown(Winds winds, int place) {
            long sum = 0;
            for (int wind = 0; wind < winds.count && wind < now.length; wind++) {
                sum += now[wind] * winds.landTenths(wind, place);
            }
            return sum;
        }

        long delivered(Siege siege) {
            long sum = 0;
            for (int region = 0; region < siege.regions; region++) {
                sum += landed(siege, region);
            }
            return sum;
        }

        private long landed(Siege siege, int region) {
            if (!siege.hasRegion(region)) {
                return 0;
            }
            return comingDown(siege.winds, region) * (WHOLE - siege.risk[region]);
        }

        /** Letters are answered unless every pigeon is lost. */
        long answered(Siege siege, int pigeons) {
            long sum = 0;
            for (int region = 0; region < siege.regions; region++) {
                long allLost = power(WHOLE - siege.comeback[region], pigeons);
                sum += landed(siege, region) * (power(WHOLE, pigeons) - allLost);
            }
            return sum;
        }
    }

    /**
     * Finds the best assignment by going through the balloons from the last to the first, for
     * every set of days that the balloons before them may have taken.
     */
    private static final class Planner {
        private static final int DAY_SETS = 1 << FORECAST_DAYS;

        private final long[] gain = new long[MAX_BALLOONS * FORECAST_DAYS];
        private final long[] best = new long[(MAX_BALLOONS + 1) * DAY_SETS];
        private final int[] chosen = new int[MAX_BALLOONS];
        private boolean planned;
        private int plannedWind;
        private int plannedReady;

        void forget() {
            planned = false;
        }

        /** A plan depends on nothing but the siege, the wind and the ready balloons: it is kept for them. */
        void plan(Siege siege, int wind, int ready, Chances chances) {
            if (planned && wind == plannedWind && ready == plannedReady) {
                return;
            }
            weighGains(siege, wind, chances);
            fillBest(siege.balloons, ready);
            chooseDays(siege.balloons, ready);
            planned = true;
            plannedWind = wind;
            plannedReady = ready;
        }

        long total() {
            return planned ? best[0] : 0;
        }

        int dayOf(int balloon) {
            return balloon >= 0 && balloon < MAX_BALLOONS ? chosen[balloon] : NONE;
        }

        private void weighGains(Siege siege, int wind, Chances chances) {
            chances.begin(wind);
            for (int day = 0; day < FORECAST_DAYS; day++) {
                for (int balloon = 0; balloon < siege.balloons; balloon++) {
                    int pigeons = siege.pigeons[balloon];
                    long scale = power(10, LAST_DAY - day + MAX_PIGEONS - pigeons);
                    gain[balloon * FORECAST_DAYS + day] =
                            siege.capacity[balloon] * chances.answered(siege, pigeons) * scale;
                }
                chances.passDay(siege.winds);
            }
        }

        private void fillBest(int balloons, int ready) {
            for (int taken = 0; taken < DAY_SETS; taken++) {
                best[balloons * DAY_SETS + taken] = 0;
            }
            for (int balloon = balloons - 1; balloon >= 0; balloon--) {
                for (int taken = 0; taken < DAY_SETS; taken++) {
                    // the balloons before this one cannot take more days than they are
                    if (Integer.bitCount(taken) <= balloon) {
                        best[balloon * DAY_SETS + taken] =
                                bestFrom(balloon, taken, isIn(ready, balloon));
                    }
                }
            }
        }

        private long bestFrom(int balloon, int taken, boolean isReady) {
            long greatest = best[(balloon + 1) * DAY_SETS + taken];
            if (!isReady) {
                return greatest;
            }
            for (int day = 0; day < FORECAST_DAYS; day++) {
                if (!isIn(taken, day)) {
                    greatest = Math.max(greatest, totalFlying(balloon, day, taken));
                }
            }
            return greatest;
        }

        private long totalFlying(int balloon, int day, int taken) {
            return gain[balloon * FORECAST_DAYS + day]
                    + best[(balloon + 1) * DAY_SETS + (taken | 1 << day)];
        }

        private void chooseDays(int balloons, int ready) {
            int taken = 0;
            for (int balloon = 0; balloon < balloons; balloon++) {
                int day = isIn(ready, balloon) ? firstBestDay(balloon, taken) : NONE;
                chosen[balloon] = day;
                if (day != NONE) {
                    taken |= 1 << day;
                }
            }
        }

        /** Of several best days the first; not to fly comes last, even if flying gains nothing. */
        private int firstBestDay(int balloon, int taken) {
            long greatest = best[balloon * DAY_SETS + taken];
            for (int day = 0; day < FORECAST_DAYS; day++) {
                if (!isIn(taken, day) && totalFlying(balloon, day, taken) == greatest) {
                    return day;
                }
            }
            return NONE;
        }

        private static boolean isIn(int set, int element) {
            return (set >> element & 1) == 1;
        }
    }

    /**
     * Finds the best load. For each total priority it keeps the best set that has it, as one
     * number: the weight above the bits of the letters, so that the lesser number is the better set.
     */
    private static final class Loader {
        private static final int MAX_TOTAL = MAX_LETTERS * MAX_PRIORITY;
        private static final long LETTER_BITS = (1L << MAX_LETTERS) - 1;
        private static final long NO_SET = 1L << 60;

        private final long[] lightest = new long[MAX_TOTAL + 1];

        int best(Siege siege, int waiting, int capacity) {
            Arrays.fill(lightest, NO_SET);
            lightest[0] = 0;
            for (int letter = 0; letter < siege.letters; letter++) {
                if ((waiting >> letter & 1) == 1) {
                    long added = ((long) siege.weight[letter] << MAX_LETTERS) + (1L << letter);
                    allow(added, siege.priority[letter]);
                }
            }
            for (int total = MAX_TOTAL; total > 0; total--) {
                // no set is heavier than any capacity
                if (lightest[total] >> MAX_LETTERS <= capacity) {
                    return (int) (lightest[total] & LETTER_BITS);
                }
            }
            return 0;
        }

        /** From above, so that the letter is not taken twice. */
        private void allow(long added, int priority) {
            for (int total = MAX_TOTAL; total >= priority && priority >= 0; total--) {
                lightest[total] = Math.min(lightest[total], lightest[total - priority] + added);
            }
        }
    }

    /** All that changes as days pass: what undo and the snapshots bring back. */
    private static final class State {
        final Journal journal = new Journal();
        final int[] balloonState = new int[MAX_BALLOONS];
        final int[] balloonRegion = new int[MAX_BALLOONS];
        final int[] cargo = new int[MAX_BALLOONS];
        final int[] letters = new int[LETTER_STATES];
        final int[] answeredOn = new int[MAX_LETTERS];
        int day;
        int wind = NONE;
        int loft;
        int lost;
        private final int[] homing = new int[MAX_BALLOONS];
        private final int[] due = new int[MAX_BALLOONS];
        private final int[] launched = new int[MAX_BALLOONS];
        private int launchCount;
        private long drawState;

        void begin(Siege siege) {
            journal.count = 0;
            Arrays.fill(balloonState, READY);
            Arrays.fill(balloonRegion, NONE);
            Arrays.fill(cargo, 0);
            Arrays.fill(letters, 0);
            letters[WAITING] = (1 << siege.letters) - 1;
            Arrays.fill(answeredOn, NONE);
            Arrays.fill(homing, 0);
            Arrays.fill(due, 0);
            launchCount = 0;
            day = 0;
            wind = siege.winds.count > 0 ? siege.start : NONE;
            loft = siege.loft;
            lost = 0;
            drawState = siege.seed;
        }

        void copyFrom(State other) {
            journal.copyFrom(other.journal);
            System.arraycopy(other.balloonState, 0, balloonState, 0, MAX_BALLOONS);
            System.arraycopy(other.balloonRegion, 0, balloonRegion, 0, MAX_BALLOONS);
            System.arraycopy(other.cargo, 0, cargo, 0, MAX_BALLOONS);
            System.arraycopy(other.letters, 0, letters, 0, LETTER_STATES);
            System.arraycopy(other.answeredOn, 0, answeredOn, 0, MAX_LETTERS);
            System.arraycopy(other.homing, 0, homing, 0, MAX_BALLOONS);
            System.arraycopy(other.due, 0, due, 0, MAX_BALLOONS);
            System.arraycopy(other.launched, 0, launched, 0, MAX_BALLOONS);
            launchCount = other.launchCount;
            day = other.day;
            wind = other.wind;
            loft = other.loft;
            lost = other.lost;
            drawState = other.drawState;
        }

        private int draw() {
            drawState = (drawState * 1103515245L + 12345L) % 2147483648L;
            return (int) (drawState / 65536L % 10L);
        }

        int fly(Siege siege, int balloon, int load) {
            if (!siege.hasBalloon(balloon) || launchCount < 0 || launchCount >= MAX_BALLOONS) {
                return INVALID;
            }
            int region = siege.winds.chooseRegion(wind, draw());
            int fate = drawFate(siege, region);
            launched[launchCount] = balloon;
            launchCount++;
            balloonState[balloon] = fate;
            balloonRegion[balloon] = region;
            cargo[balloon] = load;
            letters[WAITING] &= ~load;
            letters[fate == LANDED ? DELIVERED : LOST] |= load;
            loft -= siege.pigeons[balloon];
            journal.add(fate, balloon, day);
            if (fate == LANDED) {
                release(siege, balloon, region);
            } else {
                lost += siege.pigeons[balloon];
            }
            return fate;
        }

        private int drawFate(Siege siege, int region) {
            if (!siege.hasRegion(region)) {
                return IN_THE_SEA;
            }
            return draw() < siege.risk[region] ? CAPTURED : LANDED;
        }

        private void release(Siege siege, int balloon, int region) {
            if (!siege.hasBalloon(balloon) || !siege.hasRegion(region)) {
                return;
            }
            due[balloon] = day + siege.distance[region];
            for (int pigeon = 0; pigeon < siege.pigeons[balloon]; pigeon++) {
                if (draw() < siege.comeback[region]) {
                    homing[balloon]++;
                } else {
                    lost++;
                }
            }
        }

        void passDay(Siege siege) {
            day++;
            if (siege.winds.count > 0) {
                turnWind(siege.winds.chooseWind(wind, draw()));
            }
            // the balloons in the order of their launch release their pigeons in this order
            for (int k = 0; k < launchCount && k < MAX_BALLOONS; k++) {
                welcomePigeons(siege, launched[k]);
            }
        }

        private void turnWind(int next) {
            if (next != wind) {
                wind = next;
                journal.add(WIND_CHANGED, next, day);
            }
        }

        /** The pigeons of one balloon have the same way and so come back on the same day. */
        private void welcomePigeons(Siege siege, int balloon) {
            if (!siege.hasBalloon(balloon) || homing[balloon] == 0 || due[balloon] != day) {
                return;
            }
            for (int pigeon = 0; pigeon < homing[balloon]; pigeon++) {
                loft++;
                journal.add(PIGEON_BACK, balloon, day);
            }
            homing[balloon] = 0;
            answer(siege, cargo[balloon]);
        }

        private void answer(Siege siege, int load) {
            letters[DELIVERED] &= ~load;
            letters[ANSWERED] |= load;
            for (int letter = 0; letter < siege.letters; letter++) {
                if ((load >> letter & 1) == 1) {
                    answeredOn[letter] = day;
                }
            }
        }

        int stateOfLetter(int letter) {
            for (int number = LETTER_STATES - 1; number > WAITING; number--) {
                if ((letters[number] >> letter & 1) == 1) {
                    return number;
                }
            }
            return WAITING;
        }

        int readyBalloons(Siege siege) {
            int ready = 0;
            for (int balloon = 0; balloon < siege.balloons; balloon++) {
                if (balloonState[balloon] == READY) {
                    ready |= 1 << balloon;
                }
            }
            return ready;
        }

        int cameDownIn(Siege siege, int region) {
            int number = 0;
            for (int balloon = 0; balloon < siege.balloons; balloon++) {
                if (balloonRegion[balloon] == region) {
                    number++;
                }
            }
            return number;
        }

        int homingPigeons(Siege siege) {
            int number = 0;
            for (int balloon = 0; balloon < siege.balloons; balloon++) {
                number += homing[balloon];
            }
            return number;
        }

        int earliestReturn(Siege siege) {
            int earliest = NONE;
            for (int balloon = 0; balloon < siege.balloons; balloon++) {
                boolean sooner = earliest == NONE || due[balloon] < earliest;
                if (homing[balloon] > 0 && sooner) {
                    earliest = due[balloon];
                }
            }
            return earliest;
        }
    }

    /** The latest events, the oldest first. */
    private static final class Journal {
        final int[] kind = new int[MAX_EVENTS];
        final int[] number = new int[MAX_EVENTS];
        final int[] day = new int[MAX_EVENTS];
        int count;

        boolean has(int index) {
            return index >= 0 && index < count;
        }

        void add(int itsKind, int itsNumber, int itsDay) {
            if (count >= MAX_EVENTS) {
                dropOldest();
            }
            if (count >= 0 && count < MAX_EVENTS) {
                kind[count] = itsKind;
                number[count] = itsNumber;
                day[count] = itsDay;
                count++;
            }
        }

        private void dropOldest() {
            for (int k = 1; k < MAX_EVENTS; k++) {
                kind[k - 1] = kind[k];
                number[k - 1] = number[k];
                day[k - 1] = day[k];
            }
            count = MAX_EVENTS - 1;
        }

        void copyFrom(Journal other) {
            System.arraycopy(other.kind, 0, kind, 0, MAX_EVENTS);
            System.arraycopy(other.number, 0, number, 0, MAX_EVENTS);
            System.arraycopy(other.day, 0, day, 0, MAX_EVENTS);
            count = other.count;
        }
    }
}
