import java.math.BigDecimal;
import java.util.ArrayDeque;
import java.util.ArrayList;
import java.util.Arrays;
import java.util.HashMap;
import java.util.List;
import java.util.Map;
import java.util.regex.Matcher;
import java.util.regex.Pattern;

/**
 * A second, slow reading of the document to compare the class with: it counts with decimal
 * fractions, tries all loads and copies its whole world before each change.
 */
final class Model {
    record Region(int risk, int distance, int back) { }
    record Share(int target, int weight) { }
    record Balloon(int capacity, int pigeons) { }
    record Letter(int weight, int priority) { }
    record Bird(int balloon, int due) { }
    record Event(int kind, int number, int day) { }
    record Token(String text, int position) { }
    record Plan(BigDecimal total, List<Integer> days) { }

    private static final class Wrong extends RuntimeException {
        private static final long serialVersionUID = 1L;
        final int code;
        final int position;

        Wrong(int code, int position) {
            this.code = code;
            this.position = position;
        }
    }

    static final class Siege {
        final List<Region> regions = new ArrayList<>();
        final List<List<Share>> winds = new ArrayList<>();
        final List<List<Share>> turns = new ArrayList<>();
        final List<Balloon> balloons = new ArrayList<>();
        final List<Letter> letters = new ArrayList<>();
        int turnCount;
        Integer loft;
        Integer start;
        Integer seed;
    }

    static final class World {
        int day;
        int wind;
        long x;
        int loft;
        int lost;
        int[] balloonState;
        int[] balloonRegion;
        int[] cargo;
        int[] letterState;
        int[] answerDay;
        List<Bird> birds = new ArrayList<>();
        List<Event> events = new ArrayList<>();

        World copy() {
            World other = new World();
            other.day = day;
            other.wind = wind;
            other.x = x;
            other.loft = loft;
            other.lost = lost;
            other.balloonState = balloonState.clone();
            other.balloonRegion = balloonRegion.clone();
            other.cargo = cargo.clone();
            other.letterState = letterState.clone();
            other.answerDay = answerDay.clone();
            other.birds = new ArrayList<>(birds);
            other.events = new ArrayList<>(events);
            return other;
        }
    }

    StringBuilder buffer = new StringBuilder();
    int errorPosition = -2;
    Siege siege = new Siege();
    World world = fresh(siege);
    ArrayDeque<World> past = new ArrayDeque<>();
    World[] slots = new World[2];

    private static World fresh(Siege siege) {
        World world = new World();
        world.wind = siege.winds.isEmpty() ? -2 : siege.start == null ? 0 : siege.start;
        world.x = siege.seed == null ? 1 : siege.seed;
        world.loft = siege.loft == null ? 8 : siege.loft;
        world.balloonState = new int[siege.balloons.size()];
        world.balloonRegion = new int[siege.balloons.size()];
        Arrays.fill(world.balloonRegion, -2);
        world.cargo = new int[siege.balloons.size()];
        world.letterState = new int[siege.letters.size()];
        world.answerDay = new int[siege.letters.size()];
        Arrays.fill(world.answerDay, -2);
        return world;
    }

    // ---- siege

    int append(int... words) {
        if (buffer.length() + 20 > 900) {
            return -1;
        }
        for (int word : words) {
            for (int k = 3; k >= 0; k--) {
                buffer.append((char) (word >>> 8 * k & 255));
            }
        }
        return buffer.length();
    }

    int parse(int length) {
        if (length < 0 || length > buffer.length()) {
            return -1;
        }
        String text = buffer.substring(0, length);
        buffer.setLength(0);
        try {
            siege = read(text);
        } catch (Wrong wrong) {
            errorPosition = wrong.position;
            return wrong.code;
        }
        errorPosition = -2;
        world = fresh(siege);
        past.clear();
        Arrays.fill(slots, null);
        return 0;
    }

    private static Siege read(String text) {
        ArrayDeque<Token> tokens = new ArrayDeque<>();
        Matcher matcher = Pattern.compile("[a-z]+|[0-9]+|[^ \n]").matcher(text);
        while (matcher.find()) {
            tokens.add(new Token(matcher.group(), matcher.start()));
        }
        Token end = new Token("", text.length());
        Siege siege = new Siege();
        while (!tokens.isEmpty()) {
            statement(siege, tokens, end);
            Token token = take(tokens, end);
            require(token.text.equals(";"), 1, token);
        }
        return siege;
    }

    private static Token take(ArrayDeque<Token> tokens, Token end) {
        return tokens.isEmpty() ? end : tokens.poll();
    }

    private static void require(boolean holds, int code, Token token) {
        if (!holds) {
            throw new Wrong(code, token.position);
        }
    }

    private static int number(Token token, int low, int high) {
        require(token.text.matches("[0-9]{1,4}"), 1, token);
        int value = Integer.parseInt(token.text);
        require(value >= low && value <= high, 3, token);
        return value;
    }

    private static void statement(Siege siege, ArrayDeque<Token> tokens, Token end) {
        Token word = take(tokens, end);
        switch (word.text) {
            case "region" -> {
                require(siege.regions.size() < 8, 4, word);
                siege.regions.add(new Region(number(take(tokens, end), 0, 10),
                        number(take(tokens, end), 1, 9), number(take(tokens, end), 0, 10)));
            }
            case "wind" -> wind(siege, tokens, end, word);
            case "turn" -> turn(siege, tokens, end, word);
            case "balloon" -> {
                require(siege.balloons.size() < 10, 4, word);
                siege.balloons.add(new Balloon(number(take(tokens, end), 1, 999),
                        number(take(tokens, end), 0, 4)));
            }
            case "letter" -> {
                require(siege.letters.size() < 24, 4, word);
                siege.letters.add(new Letter(number(take(tokens, end), 1, 99),
                        number(take(tokens, end), 1, 9)));
            }
            case "loft" -> {
                require(siege.loft == null, 2, word);
                siege.loft = number(take(tokens, end), 0, 40);
            }
            case "start" -> {
                require(siege.start == null, 2, word);
                siege.start = number(take(tokens, end), 0, siege.winds.size() - 1);
            }
            case "seed" -> {
                require(siege.seed == null, 2, word);
                siege.seed = number(take(tokens, end), 0, 9999);
            }
            default -> require(false, 1, word);
        }
    }

    private static int sum(List<Share> shares) {
        return shares.stream().mapToInt(Share::weight).sum();
    }

    private static boolean names(List<Share> shares, int target) {
        return shares.stream().anyMatch(share -> share.target == target);
    }

    private static void wind(Siege siege, ArrayDeque<Token> tokens, Token end, Token word) {
        require(siege.winds.size() < 6, 4, word);
        List<Share> shares = new ArrayList<>();
        while (tokens.isEmpty() || !tokens.peek().text.equals(";")) {
            Token token = take(tokens, end);
            int region = number(token, 0, siege.regions.size() - 1);
            require(!names(shares, region), 2, token);
            Token weight = take(tokens, end);
            int value = number(weight, 1, 10);
            require(sum(shares) + value <= 10, 3, weight);
            shares.add(new Share(region, value));
        }
        siege.winds.add(shares);
        siege.turns.add(new ArrayList<>());
    }

    private static void turn(Siege siege, ArrayDeque<Token> tokens, Token end, Token word) {
        require(siege.turnCount < 30, 4, word);
        int from = number(take(tokens, end), 0, siege.winds.size() - 1);
        Token second = take(tokens, end);
        int to = number(second, 0, siege.winds.size() - 1);
        List<Share> shares = siege.turns.get(from);
        require(from != to && !names(shares, to), 2, second);
        Token weight = take(tokens, end);
        int value = number(weight, 1, 10);
        require(sum(shares) + value <= 10, 3, weight);
        shares.add(new Share(to, value));
        siege.turnCount++;
    }

    // ---- chances

    private static BigDecimal tenths(int n) {
        return BigDecimal.valueOf(n, 1);
    }

    private BigDecimal step(int from, int to) {
        int sum = 0;
        for (Share share : siege.turns.get(from)) {
            if (share.target == to) {
                return tenths(share.weight);
            }
            sum += share.weight;
        }
        return from == to ? tenths(10 - sum) : BigDecimal.ZERO;
    }

    /** The chance to be in a wind after some days without ever having been in another one. */
    private BigDecimal path(int from, int to, int days, int shunned, Map<Integer, BigDecimal> known) {
        if (from == shunned) {
            return BigDecimal.ZERO;
        }
        if (days == 0) {
            return from == to ? BigDecimal.ONE : BigDecimal.ZERO;
        }
        int key = from * 100 + days;
        if (!known.containsKey(key)) {
            BigDecimal sum = BigDecimal.ZERO;
            for (int next = 0; next < siege.winds.size(); next++) {
                sum = sum.add(step(from, next).multiply(path(next, to, days - 1, shunned, known)));
            }
            known.put(key, sum);
        }
        return known.get(key);
    }

    private static long numerator(BigDecimal chance, int zeros) {
        return chance.movePointRight(zeros).longValueExact();
    }

    private boolean hasWind(int wind) {
        return wind >= 0 && wind < siege.winds.size();
    }

    long windChance(int wind, int days) {
        if (!hasWind(wind) || days < 0 || days > 8) {
            return -1;
        }
        return numerator(path(world.wind, wind, days, -1, new HashMap<>()), days);
    }

    long avoidChance(int wind, int days) {
        if (!hasWind(wind) || days < 0 || days > 8) {
            return -1;
        }
        BigDecimal sum = BigDecimal.ZERO;
        for (int last = 0; last < siege.winds.size(); last++) {
            sum = sum.add(path(world.wind, last, days, wind, new HashMap<>()));
        }
        return numerator(sum, days);
    }

    private BigDecimal landing(int region, int days) {
        BigDecimal total = BigDecimal.ZERO;
        for (int wind = 0; wind < siege.winds.size(); wind++) {
            int weight = region == -2 ? 10 - sum(siege.winds.get(wind)) : 0;
            for (Share share : siege.winds.get(wind)) {
                weight += share.target == region ? share.weight : 0;
            }
            BigDecimal there = path(world.wind, wind, days, -1, new HashMap<>());
            total = total.add(there.multiply(tenths(weight)));
        }
        return total;
    }

    long landingChance(int region, int days) {
        boolean known = region == -2 || region >= 0 && region < siege.regions.size();
        if (!known || days < 0 || days > 8 || siege.winds.isEmpty()) {
            return -1;
        }
        return numerator(landing(region, days), days + 1);
    }

    long deliveryChance(int days) {
        if (days < 0 || days > 8 || siege.winds.isEmpty()) {
            return -1;
        }
        BigDecimal sum = BigDecimal.ZERO;
        for (int region = 0; region < siege.regions.size(); region++) {
            BigDecimal safe = BigDecimal.ONE.subtract(tenths(siege.regions.get(region).risk));
            sum = sum.add(landing(region, days).multiply(safe));
        }
        return numerator(sum, days + 2);
    }

    private BigDecimal answer(int pigeons, int days) {
        BigDecimal sum = BigDecimal.ZERO;
        for (int r = 0; r < siege.regions.size(); r++) {
            Region region = siege.regions.get(r);
            BigDecimal safe = BigDecimal.ONE.subtract(tenths(region.risk));
            BigDecimal lost = BigDecimal.ONE.subtract(tenths(region.back)).pow(pigeons);
            sum = sum.add(landing(r, days).multiply(safe).multiply(BigDecimal.ONE.subtract(lost)));
        }
        return sum;
    }

    private boolean canAnswer(int pigeons, int days) {
        return pigeons >= 0 && pigeons <= 4 && days >= 0 && days <= 8 && !siege.winds.isEmpty();
    }

    long answerChance(int pigeons, int days) {
        return canAnswer(pigeons, days) ? numerator(answer(pigeons, days), days + 2 + pigeons) : -1;
    }

    int answerPermille(int pigeons, int days) {
        return canAnswer(pigeons, days) ? answer(pigeons, days).movePointRight(3).intValue() : -1;
    }

    int bestDay(int pigeons) {
        if (!canAnswer(pigeons, 0)) {
            return -1;
        }
        int best = 8;
        for (int days = 7; days >= 0; days--) {
            if (answer(pigeons, days).compareTo(answer(pigeons, best)) >= 0) {
                best = days;
            }
        }
        return best;
    }

    private Plan plan() {
        BigDecimal[][] chance = new BigDecimal[5][9];
        for (int pigeons = 0; pigeons <= 4; pigeons++) {
            for (int day = 0; day <= 8; day++) {
                chance[pigeons][day] = answer(pigeons, day);
            }
        }
        return plan(0, 0, chance, new HashMap<>());
    }

    /** The best plan for the balloons from one on: day 9 stands for a ready one that stays, 10 for the others. */
    private Plan plan(int balloon, int taken, BigDecimal[][] chance, Map<Integer, Plan> known) {
        if (balloon == siege.balloons.size()) {
            return new Plan(BigDecimal.ZERO, List.of());
        }
        int key = balloon * 512 + taken;
        if (known.containsKey(key)) {
            return known.get(key);
        }
        Balloon it = siege.balloons.get(balloon);
        boolean ready = world.balloonState[balloon] == 0;
        Plan best = null;
        for (int day = ready ? 0 : 10; day <= (ready ? 9 : 10); day++) {
            if (day < 9 && (taken >> day & 1) == 1) {
                continue;
            }
            Plan rest = plan(balloon + 1, day < 9 ? taken | 1 << day : taken, chance, known);
            BigDecimal total = rest.total;
            if (day < 9) {
                total = total.add(chance[it.pigeons][day].multiply(BigDecimal.valueOf(it.capacity)));
            }
            List<Integer> days = new ArrayList<>();
            days.add(day);
            days.addAll(rest.days);
            Plan plan = new Plan(total, days);
            if (best == null || isBetter(plan, best)) {
                best = plan;
            }
        }
        known.put(key, best);
        return best;
    }

    private static boolean isBetter(Plan plan, Plan other) {
        int order = plan.total.compareTo(other.total);
        for (int k = 0; order == 0 && k < plan.days.size(); k++) {
            order = other.days.get(k) - plan.days.get(k);
        }
        return order > 0;
    }

    long assignmentTotal() {
        return siege.winds.isEmpty() ? -1 : numerator(plan().total, 14);
    }

    int assignedDay(int balloon) {
        if (!hasBalloon(balloon) || siege.winds.isEmpty()) {
            return -1;
        }
        int day = plan().days.get(balloon);
        return day >= 9 ? -2 : day;
    }

    // ---- loading

    private boolean hasBalloon(int balloon) {
        return balloon >= 0 && balloon < siege.balloons.size();
    }

    private boolean hasLetter(int letter) {
        return letter >= 0 && letter < siege.letters.size();
    }

    int bestLoad(int balloon) {
        if (!hasBalloon(balloon)) {
            return -1;
        }
        if (world.balloonState[balloon] != 0) {
            return -2;
        }
        int waiting = lettersIn(0);
        int best = 0;
        int bestPriority = 0;
        int bestWeight = 0;
        // all subsets of the waiting letters, from the greatest number down
        for (int set = waiting; set != 0; set = set - 1 & waiting) {
            int weight = weightOf(set);
            int priority = priorityOf(set);
            boolean better = priority > bestPriority
                    || priority == bestPriority && weight <= bestWeight;
            if (weight <= siege.balloons.get(balloon).capacity && better) {
                best = set;
                bestPriority = priority;
                bestWeight = weight;
            }
        }
        return best;
    }

    int weightOf(int letters) {
        int sum = 0;
        for (int k = 0; k < 32; k++) {
            if ((letters >>> k & 1) == 1) {
                if (!hasLetter(k)) {
                    return -1;
                }
                sum += siege.letters.get(k).weight;
            }
        }
        return sum;
    }

    int priorityOf(int letters) {
        int sum = 0;
        for (int k = 0; k < 32; k++) {
            if ((letters >>> k & 1) == 1) {
                if (!hasLetter(k)) {
                    return -1;
                }
                sum += siege.letters.get(k).priority;
            }
        }
        return sum;
    }

    int lettersIn(int state) {
        if (state < 0 || state > 3) {
            return -1;
        }
        int set = 0;
        for (int k = 0; k < world.letterState.length; k++) {
            set |= world.letterState[k] == state ? 1 << k : 0;
        }
        return set;
    }

    // ---- flying

    private int draw() {
        world.x = (world.x * 1103515245L + 12345L) % 2147483648L;
        return (int) (world.x / 65536 % 10);
    }

    private static int choose(List<Share> shares, int g, int rest) {
        for (Share share : shares) {
            if (g < share.weight) {
                return share.target;
            }
            g -= share.weight;
        }
        return rest;
    }

    private void event(int kind, int number) {
        world.events.add(new Event(kind, number, world.day));
        if (world.events.size() > 16) {
            world.events.remove(0);
        }
    }

    private void remember() {
        past.push(world.copy());
        if (past.size() > 12) {
            past.removeLast();
        }
    }

    int launch(int balloon, int letters) {
        if (!hasBalloon(balloon) || weightOf(letters) == -1) {
            return -1;
        }
        if (world.balloonState[balloon] != 0 || (letters & lettersIn(0)) != letters
                || siege.winds.isEmpty()) {
            return -2;
        }
        Balloon it = siege.balloons.get(balloon);
        if (weightOf(letters) > it.capacity) {
            return -3;
        }
        if (world.loft < it.pigeons) {
            return -4;
        }
        remember();
        world.loft -= it.pigeons;
        world.cargo[balloon] = letters;
        int region = choose(siege.winds.get(world.wind), draw(), -2);
        world.balloonRegion[balloon] = region;
        int state = region == -2 ? 1 : draw() < siege.regions.get(region).risk ? 2 : 3;
        world.balloonState[balloon] = state;
        event(state, balloon);
        for (int k = 0; k < world.letterState.length; k++) {
            if ((letters >> k & 1) == 1) {
                world.letterState[k] = state == 3 ? 2 : 1;
            }
        }
        for (int k = 0; k < it.pigeons; k++) {
            if (state == 3 && draw() < siege.regions.get(region).back) {
                world.birds.add(new Bird(balloon, world.day + siege.regions.get(region).distance));
            } else {
                world.lost++;
            }
        }
        return state;
    }

    int nextDay() {
        remember();
        int before = world.wind;
        if (!siege.winds.isEmpty()) {
            world.wind = choose(siege.turns.get(before), draw(), before);
        }
        world.day++;
        if (world.wind != before) {
            event(5, world.wind);
        }
        List<Bird> away = new ArrayList<>();
        for (Bird bird : world.birds) {
            if (bird.due == world.day) {
                world.loft++;
                event(4, bird.balloon);
                answerLetters(world.cargo[bird.balloon]);
            } else {
                away.add(bird);
            }
        }
        world.birds = away;
        return world.wind;
    }

    private void answerLetters(int letters) {
        for (int k = 0; k < world.letterState.length; k++) {
            if ((letters >> k & 1) == 1 && world.letterState[k] == 2) {
                world.letterState[k] = 3;
                world.answerDay[k] = world.day;
            }
        }
    }

    private static int at(int[] row, int index) {
        return index >= 0 && index < row.length ? row[index] : -1;
    }

    int capacity(int balloon) {
        return hasBalloon(balloon) ? siege.balloons.get(balloon).capacity : -1;
    }

    int letterWeight(int letter) {
        return hasLetter(letter) ? siege.letters.get(letter).weight : -1;
    }

    int balloonState(int balloon) {
        return at(world.balloonState, balloon);
    }

    int balloonRegion(int balloon) {
        return at(world.balloonRegion, balloon);
    }

    int cargo(int balloon) {
        return at(world.cargo, balloon);
    }

    int letterState(int letter) {
        return at(world.letterState, letter);
    }

    int answerDay(int letter) {
        return at(world.answerDay, letter);
    }

    int nextReturn() {
        return world.birds.stream().mapToInt(Bird::due).min().orElse(-2);
    }

    int weightIn(int state) {
        return state < 0 || state > 3 ? -1 : weightOf(lettersIn(state));
    }

    int answeredPriority() {
        return priorityOf(lettersIn(3));
    }

    int balloonsIn(int region) {
        if (region < 0 || region >= siege.regions.size()) {
            return -1;
        }
        return (int) Arrays.stream(world.balloonRegion).filter(it -> it == region).count();
    }

    /** Throws what List.get throws for a wrong index. */
    Event event(int index) {
        return world.events.get(index);
    }

    // ---- changes

    boolean undo() {
        if (past.isEmpty()) {
            return false;
        }
        world = past.pop();
        return true;
    }

    boolean saveSnapshot(int slot) {
        if (slot < 0 || slot > 1) {
            return false;
        }
        slots[slot] = world.copy();
        return true;
    }

    boolean restoreSnapshot(int slot) {
        if (slot < 0 || slot > 1 || slots[slot] == null) {
            return false;
        }
        world = slots[slot].copy();
        past.clear();
        return true;
    }
}
