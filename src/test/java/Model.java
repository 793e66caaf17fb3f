import java.util.ArrayList;
import java.util.HashMap;
import java.util.List;
import java.util.Map;
import java.util.Set;
import java.util.TreeMap;

/**
 * The document written down a second time, as plainly as can be and with all of the Java library: texts become trees,
 * states are copied freely. RandomTest holds the class against it.
 */
final class Model {
    static final int NONE = -1;
    static final long NOTHING = -1000000000000000L;
    static final Set<String> OWN_WORDS = Set.of("mood", "person", "is", "loaf", "leaven", "by", "eats", "at", "deed", "when", "turn",
        "night", "bake", "evening", "whim", "clock", "day", "own", "now", "bread", "which", "feel", "nature", "or", "and", "not", "all",
        "min", "max");

    static final class Fault extends RuntimeException {
        final int number;
        final int place;

        Fault(int number, int place) {
            super(number + " at " + place);
            this.number = number;
            this.place = place;
        }
    }

    /** What a SUM is reckoned by. */
    static final class Scene {
        final Map<String, Long> words = new HashMap<>();
        int[] felt = {};
        int[] natures = {};
        List<Boolean> done = List.of();
    }

    interface Sum {
        long of(Scene scene);
    }

    interface Test {
        boolean of(Scene scene);
    }

    record Token(int at, String text, boolean joined) {
        boolean isWord() {
            return !text.isEmpty() && Character.isLowerCase(text.charAt(0)) && text.charAt(0) < 128;
        }

        boolean isNumber() {
            return !text.isEmpty() && "0123456789".indexOf(text.charAt(0)) >= 0;
        }
    }

    static final class Parser {
        final List<Token> tokens = new ArrayList<>();
        int next = 0;
        int open = 0;
        Set<String> leaves = Set.of();
        Set<String> unary = Set.of();

        Parser(String text) {
            int i = 0;
            while (i < text.length()) {
                char c = text.charAt(i);
                if (c == ' ' || c == '\n') {
                    i++;
                    continue;
                }
                int j = i + 1;
                String sort = sort(c);
                while (!sort.isEmpty() && j < text.length() && sort(text.charAt(j)).equals(sort)) {
                    j++;
                }
                boolean joined = !sort.isEmpty() && i > 0 && !sort(text.charAt(i - 1)).isEmpty();
                tokens.add(new Token(i, text.substring(i, j), joined));
                i = j;
            }
            tokens.add(new Token(text.length(), "", false));
        }

        static String sort(char c) {
            return c >= 'a' && c <= 'z' ? "letter" : c >= '0' && c <= '9' ? "digit" : "";
        }

        Token here() {
            return tokens.get(next);
        }

        boolean isAt(String text) {
            return here().text().equals(text) && !here().joined();
        }

        Token take(String text) {
            if (!isAt(text)) {
                throw new Fault(1, here().at());
            }
            return tokens.get(next++);
        }

        int number(int most) {
            Token token = here();
            if (!token.isNumber() || token.joined()) {
                throw new Fault(1, token.at());
            }
            if (token.text().length() > 4) {
                throw new Fault(1, token.at() + 4);
            }
            int number = Integer.parseInt(token.text());
            if (number > most) {
                throw new Fault(2, token.at());
            }
            next++;
            return number;
        }

        Token name() {
            Token token = here();
            if (!token.isWord() || token.joined() || OWN_WORDS.contains(token.text())) {
                throw new Fault(1, token.at());
            }
            if (token.text().length() > 6) {
                throw new Fault(1, token.at() + 6);
            }
            next++;
            return token;
        }

        void open() {
            if (++open > 6) {
                throw new Fault(4, here().at());
            }
        }

        Test test() {
            Test left = both();
            while (isAt("or")) {
                next++;
                Test one = left;
                Test other = both();
                left = scene -> one.of(scene) || other.of(scene);
            }
            return left;
        }

        Test both() {
            Test left = fact();
            while (isAt("and")) {
                next++;
                Test one = left;
                Test other = fact();
                left = scene -> one.of(scene) && other.of(scene);
            }
            return left;
        }

        Test fact() {
            if (isAt("not")) {
                open();
                next++;
                Test inner = fact();
                open--;
                return scene -> !inner.of(scene);
            }
            if (isAt("[")) {
                open();
                next++;
                Test inner = test();
                take("]");
                open--;
                return inner;
            }
            if (isAt("all")) {
                next++;
                return scene -> true;
            }
            Sum one = sum();
            if (!isAt("<") && !isAt(">") && !isAt("=")) {
                throw new Fault(1, here().at());
            }
            String sign = tokens.get(next++).text();
            Sum other = sum();
            return scene -> {
                int way = Long.compare(one.of(scene), other.of(scene));
                return way == (sign.equals("<") ? -1 : sign.equals(">") ? 1 : 0);
            };
        }

        static long held(long number) {
            return number > 1000000 ? 1000000 : number < -1000000 ? -1000000 : number;
        }

        Sum sum() {
            Sum left = product();
            while (isAt("+") || isAt("-")) {
                int sign = tokens.get(next++).text().equals("+") ? 1 : -1;
                Sum one = left;
                Sum other = product();
                left = scene -> held(one.of(scene) + sign * other.of(scene));
            }
            return left;
        }

        Sum product() {
            Sum left = part();
            while (isAt("*") || isAt("/")) {
                boolean times = tokens.get(next++).text().equals("*");
                Sum one = left;
                Sum other = part();
                left = scene -> {
                    long a = one.of(scene);
                    long b = other.of(scene);
                    if (times) {
                        return held(a * b);
                    }
                    if (b == 0) {
                        return 0;
                    }
                    long quotient = a / b;
                    return quotient * b != a && (a < 0) != (b < 0) ? quotient - 1 : quotient;
                };
            }
            return left;
        }

        Sum part() {
            Token token = here();
            String text = token.text();
            if (token.joined()) {
                throw new Fault(1, token.at());
            }
            if (token.isNumber()) {
                long number = number(9999);
                return scene -> number;
            }
            if (text.equals("(")) {
                open();
                next++;
                Sum inner = sum();
                take(")");
                open--;
                return inner;
            }
            if (text.equals("min") || text.equals("max")) {
                next++;
                if (!isAt("(")) {
                    throw new Fault(1, here().at());
                }
                open();
                next++;
                Sum one = sum();
                take(",");
                Sum other = sum();
                take(")");
                open--;
                boolean least = text.equals("min");
                return scene -> least ? Math.min(one.of(scene), other.of(scene)) : Math.max(one.of(scene), other.of(scene));
            }
            if (unary.contains(text)) {
                open();
                next++;
                Sum inner = part();
                open--;
                return scene -> askedOf(text, inner.of(scene), scene);
            }
            if (leaves.contains(text)) {
                next++;
                return scene -> scene.words.get(text);
            }
            throw new Fault(1, token.at());
        }

        static long askedOf(String word, long number, Scene scene) {
            if (word.equals("does")) {
                return number >= 0 && number < scene.done.size() && scene.done.get((int) number) ? 1 : 0;
            }
            int[] of = word.equals("feel") ? scene.felt : scene.natures;
            return number >= 0 && number < of.length ? of[(int) number] : 0;
        }
    }

    record Loaf(String name, int leaven, List<Integer> who) {
    }

    record Meal(int person, int loaf, int clock) {
    }

    record Deed(String name, Test test) {
    }

    static final class Town {
        int statements = 0;
        final List<String> moods = new ArrayList<>();
        final List<String> people = new ArrayList<>();
        final List<int[]> natures = new ArrayList<>();
        final List<Loaf> loaves = new ArrayList<>();
        final List<Meal> meals = new ArrayList<>();
        final List<Deed> deeds = new ArrayList<>();
        Sum turn = null;
        Sum night = null;
        int bake = 5;
        int evening = 18;
        int whim = 0;

        List<List<String>> names() {
            return List.of(moods, people, loaves.stream().map(Loaf::name).toList(), deeds.stream().map(Deed::name).toList());
        }
    }

    static Town townOf(String text) {
        Parser p = new Parser(text);
        Town t = new Town();
        while (!p.here().text().isEmpty()) {
            Token start = p.here();
            if (t.statements == 60) {
                throw new Fault(5, start.at());
            }
            statement(p, t, start);
            p.take(";");
            t.statements++;
        }
        return t;
    }

    static void atMost(boolean good, Token start) {
        if (!good) {
            throw new Fault(5, start.at());
        }
    }

    static String given(Parser p, Town t) {
        Token name = p.name();
        for (List<String> names : t.names()) {
            if (names.contains(name.text())) {
                throw new Fault(3, name.at());
            }
        }
        return name.text();
    }

    static int known(Parser p, List<String> names) {
        Token name = p.name();
        if (!names.contains(name.text())) {
            throw new Fault(3, name.at());
        }
        return names.indexOf(name.text());
    }

    static void statement(Parser p, Town t, Token start) {
        p.next++;
        switch (start.text()) {
            case "mood" -> {
                atMost(t.moods.size() < 4 && t.people.isEmpty(), start);
                t.moods.add(given(p, t));
            }
            case "person" -> {
                atMost(t.people.size() < 8, start);
                t.people.add(given(p, t));
                p.take("is");
                int[] natures = new int[t.moods.size()];
                for (int i = 0; i < natures.length; i++) {
                    natures[i] = p.number(99);
                }
                t.natures.add(natures);
            }
            case "loaf" -> {
                atMost(t.loaves.size() < 6, start);
                String name = given(p, t);
                p.take("leaven");
                int leaven = p.number(100);
                p.take("by");
                List<Integer> who = new ArrayList<>();
                do {
                    Token token = p.here();
                    atMost(who.size() < 3, token);
                    int person = known(p, t.people);
                    if (who.contains(person)) {
                        throw new Fault(3, token.at());
                    }
                    who.add(person);
                } while (p.here().isWord());
                t.loaves.add(new Loaf(name, leaven, who));
            }
            case "eats" -> {
                atMost(t.meals.size() < 16, start);
                int person = known(p, t.people);
                int loaf = known(p, t.names().get(2));
                p.take("at");
                t.meals.add(new Meal(person, loaf, p.number(23)));
            }
            case "deed" -> {
                atMost(t.deeds.size() < 6, start);
                String name = given(p, t);
                p.take("when");
                p.leaves = Set.of("clock", "day");
                p.unary = Set.of("feel", "nature");
                t.deeds.add(new Deed(name, p.test()));
            }
            case "turn", "night" -> {
                boolean turn = start.text().equals("turn");
                atMost((turn ? t.turn : t.night) == null, start);
                p.leaves = Set.of("clock", "day", "own", "now", "bread", "which");
                p.unary = Set.of();
                Sum sum = p.sum();
                if (turn) {
                    t.turn = sum;
                } else {
                    t.night = sum;
                }
            }
            case "bake" -> t.bake = p.number(23);
            case "evening" -> t.evening = p.number(23);
            case "whim" -> t.whim = p.number(99);
            default -> throw new Fault(1, start.at());
        }
    }

    /** How all are. */
    static final class World {
        int hour = 0;
        int[][] natures;
        int[][] felt;
        int[][] loaves;
        List<List<Integer>> who = new ArrayList<>();

        World copy() {
            World w = new World();
            w.hour = hour;
            w.natures = copy(natures);
            w.felt = copy(felt);
            w.loaves = copy(loaves);
            w.who = new ArrayList<>(who);
            return w;
        }

        static int[][] copy(int[][] rows) {
            int[][] all = new int[rows.length][];
            for (int i = 0; i < rows.length; i++) {
                all[i] = rows[i].clone();
            }
            return all;
        }

        String told() {
            return java.util.Arrays.deepToString(natures) + java.util.Arrays.deepToString(felt) + java.util.Arrays.deepToString(loaves);
        }
    }

    private StringBuilder tape = new StringBuilder();
    Town town = new Town();
    World world = new World();
    private final List<World> before = new ArrayList<>();
    private final List<int[]> seen = new ArrayList<>();
    private final List<Integer> image = new ArrayList<>();
    private long drawn = 1;
    private Fault fault = null;
    private final int[] refused = new int[6];

    Model() {
        begin();
    }

    private void begin() {
        world = new World();
        world.natures = new int[town.people.size()][];
        for (int i = 0; i < town.people.size(); i++) {
            world.natures[i] = town.natures.get(i).clone();
        }
        world.felt = World.copy(world.natures);
        world.loaves = new int[town.loaves.size()][town.moods.size()];
        for (Loaf loaf : town.loaves) {
            world.who.add(loaf.who());
        }
    }

    // ---- how hours come

    private static int felt(long number) {
        return (int) Math.max(0, Math.min(99, number));
    }

    private World hours(World from, int n) {
        World w = from.copy();
        for (int i = 0; i < n; i++) {
            hour(w);
        }
        return w;
    }

    private Scene scene(World w, int person) {
        Scene s = new Scene();
        s.felt = w.felt[person].clone();
        s.natures = w.natures[person].clone();
        s.words.put("hour", (long) w.hour);
        s.words.put("clock", (long) (w.hour % 24));
        s.words.put("day", (long) (w.hour / 24));
        return s;
    }

    private int[] become(World w, int person, Sum sum, int[] bread) {
        Scene s = scene(w, person);
        int[] all = new int[town.moods.size()];
        for (int mood = 0; mood < all.length; mood++) {
            s.words.put("own", (long) s.natures[mood]);
            s.words.put("now", (long) s.felt[mood]);
            s.words.put("bread", (long) bread[mood]);
            s.words.put("which", (long) mood);
            all[mood] = felt(sum.of(s));
        }
        return all;
    }

    private void hour(World w) {
        w.hour++;
        int clock = w.hour % 24;
        if (clock == town.bake) {
            for (int loaf = 0; loaf < town.loaves.size(); loaf++) {
                int leaven = town.loaves.get(loaf).leaven();
                int n = w.who.get(loaf).size();
                for (int mood = 0; mood < town.moods.size(); mood++) {
                    int sum = 0;
                    for (int person : w.who.get(loaf)) {
                        sum += w.felt[person][mood];
                    }
                    w.loaves[loaf][mood] = ((100 - leaven) * sum + leaven * n * w.loaves[loaf][mood]) / (100 * n);
                }
            }
        }
        for (Meal meal : town.meals) {
            if (meal.clock() == clock) {
                int[] bread = w.loaves[meal.loaf()];
                w.felt[meal.person()] = town.turn == null ? bread.clone() : become(w, meal.person(), town.turn, bread);
            }
        }
        if (clock == town.evening) {
            for (int person = 0; person < town.people.size(); person++) {
                if (town.night != null) {
                    w.natures[person] = become(w, person, town.night, new int[town.moods.size()]);
                }
                w.felt[person] = w.natures[person].clone();
            }
        }
    }

    private List<Boolean> done(World w, int person) {
        List<Boolean> all = new ArrayList<>();
        for (Deed deed : town.deeds) {
            all.add(deed.test().of(scene(w, person)));
        }
        return all;
    }

    // ---- what there is

    private boolean person(int person) {
        return person >= 0 && person < town.people.size();
    }

    private boolean mood(int mood) {
        return mood >= 0 && mood < town.moods.size();
    }

    private boolean aLoaf(int loaf) {
        return loaf >= 0 && loaf < town.loaves.size();
    }

    private boolean deed(int deed) {
        return deed >= 0 && deed < town.deeds.size();
    }

    private boolean ahead(int n) {
        return n >= 0 && n <= 200 && world.hour + n <= 9999;
    }

    private int refuse(int kind) {
        refused[kind]++;
        return NONE;
    }

    private boolean refuseIt(int kind) {
        refused[kind]++;
        return false;
    }

    private static int bits(List<Integer> who) {
        int bits = 0;
        for (int person : who) {
            bits += 1 << person;
        }
        return bits;
    }

    private List<Integer> set(int bits) {
        List<Integer> who = new ArrayList<>();
        for (int person = 0; person < town.people.size(); person++) {
            if ((bits >> person & 1) == 1) {
                who.add(person);
            }
        }
        return bits(who) == bits && who.size() >= 1 && who.size() <= 3 ? who : null;
    }

    private List<List<Integer>> sets() {
        List<List<Integer>> all = new ArrayList<>();
        for (int bits = 1; bits < 1 << town.people.size(); bits++) {
            if (set(bits) != null) {
                all.add(set(bits));
            }
        }
        return all;
    }

    private World kneadedBy(int loaf, List<Integer> who) {
        World w = world.copy();
        w.who.set(loaf, who);
        return w;
    }

    // ---- the calls

    public int feed(int a, int b, int c, int d, int e) {
        if (tape.length() > 1580) {
            return refuse(0);
        }
        for (int number : new int[] {a, b, c, d, e}) {
            for (byte octet : java.nio.ByteBuffer.allocate(4).putInt(number).array()) {
                tape.append((char) (octet & 255));
            }
        }
        return tape.length();
    }

    public boolean end(int n) {
        if (n < 0 || n > tape.length()) {
            return refuseIt(0);
        }
        tape.setLength(n);
        return true;
    }

    private String takeTape() {
        String text = tape.toString();
        tape = new StringBuilder();
        return text;
    }

    public int town() {
        try {
            fault = null;
            town = townOf(takeTape());
        } catch (Fault found) {
            fault = found;
            return refuse(1);
        }
        begin();
        seen.clear();
        before.clear();
        return town.statements;
    }

    public int fault(int what) {
        return what == 0 ? fault == null ? 0 : fault.number : what == 1 && fault != null ? fault.place : NONE;
    }

    public int has(int what) {
        int done = 0;
        for (int person = 0; person < town.people.size(); person++) {
            done += done(world, person).stream().filter(x -> x).count();
        }
        int[] all = {town.moods.size(), town.people.size(), town.loaves.size(), town.meals.size(), town.deeds.size(), world.hour, done,
            seen.size(), before.size()};
        return what >= 0 && what < all.length ? all[what] : NONE;
    }

    public int letter(int kind, int which, int k) {
        if (kind < 0 || kind > 3 || which < 0 || which >= town.names().get(kind).size() || k < 0 || k > 5) {
            return NONE;
        }
        String name = town.names().get(kind).get(which);
        return k < name.length() ? name.charAt(k) - 'a' + 1 : 0;
    }

    public int feels(int person, int mood, int what) {
        return !person(person) || !mood(mood) || what < 0 || what > 1 ? NONE
            : what == 0 ? world.felt[person][mood] : world.natures[person][mood];
    }

    public int bread(int loaf, int mood) {
        return aLoaf(loaf) && mood(mood) ? world.loaves[loaf][mood] : NONE;
    }

    public int loaf(int loaf, int what) {
        if (!aLoaf(loaf) || what < 0 || what > 2) {
            return NONE;
        }
        return what == 0 ? town.loaves.get(loaf).leaven() : what == 1 ? bits(world.who.get(loaf))
            : (int) town.meals.stream().filter(meal -> meal.loaf() == loaf).count();
    }

    public int does(int person, int deed) {
        return person(person) && deed(deed) ? done(world, person).get(deed) ? 1 : 0 : NONE;
    }

    public int later(int person, int mood, int n) {
        return person(person) && mood(mood) && ahead(n) ? hours(world, n).felt[person][mood] : NONE;
    }

    public int first(int what) {
        World w = world;
        for (int n = 0; ahead(n); n++) {
            for (int person = 0; person < town.people.size(); person++) {
                int deed = done(w, person).indexOf(true);
                if (deed >= 0) {
                    return what == 0 ? n : what == 1 ? person : what == 2 ? deed : NONE;
                }
            }
            w = hours(w, 1);
        }
        return NONE;
    }

    public int often(int person, int deed, int n) {
        if (!person(person) || !deed(deed) || n < 1 || n > 200) {
            return NONE;
        }
        int times = 0;
        World w = world;
        for (int i = 0; i < n && ahead(i); i++) {
            times += done(w, person).get(deed) ? 1 : 0;
            w = hours(w, 1);
        }
        return times;
    }

    public int again(int what) {
        List<String> told = new ArrayList<>();
        for (int k = 0; k <= 8 && ahead(24 * k); k++) {
            String now = hours(world, 24 * k).told();
            int j = told.indexOf(now);
            if (j >= 0) {
                return what == 0 ? k : what == 1 ? k - j : NONE;
            }
            told.add(now);
        }
        return NONE;
    }

    public int hands(int loaf, int person, int mood, int n, int number, int what) {
        if (!aLoaf(loaf) || !person(person) || !mood(mood) || !ahead(n) || number < 0 || number > 99 || what < 0 || what > 1) {
            return NONE;
        }
        // keys: how far off, how many, their bits
        TreeMap<Integer, Integer> all = new TreeMap<>();
        for (List<Integer> who : sets()) {
            int felt = hours(kneadedBy(loaf, who), n).felt[person][mood];
            all.put(Math.abs(felt - number) * 10000 + who.size() * 1000 + bits(who), felt);
        }
        return what == 0 ? all.firstKey() % 1000 : all.firstEntry().getValue();
    }

    public int blend(int first, int second, int mood, int number, int what) {
        if (!aLoaf(first) || !aLoaf(second) || first == second || !mood(mood) || number < 0 || number > 99 || what < 0 || what > 1) {
            return NONE;
        }
        // 12252240 can be divided by all of 2 .. 18
        TreeMap<Long, Integer> all = new TreeMap<>();
        for (int a = 1; a <= 9; a++) {
            for (int b = 1; b <= 9; b++) {
                long blend = 12252240L / (a + b) * (a * world.loaves[first][mood] + b * world.loaves[second][mood]);
                all.putIfAbsent(Math.abs(blend - 12252240L * number), 10 * a + b);
            }
        }
        return what == 0 ? all.firstEntry().getValue() : all.firstKey() == 0 ? 1 : 0;
    }

    public int left(int loaf, int person, int n) {
        if (!aLoaf(loaf) || !person(person) || n < 0 || n > 6) {
            return NONE;
        }
        java.math.BigDecimal hundred = java.math.BigDecimal.valueOf(100);
        java.math.BigDecimal leaven = java.math.BigDecimal.valueOf(town.loaves.get(loaf).leaven()).divide(hundred);
        // 6 shares together, so that thirds are whole
        java.math.BigDecimal shares = java.math.BigDecimal.ZERO;
        for (int i = 0; i < n; i++) {
            shares = shares.multiply(leaven);
            if (world.who.get(loaf).contains(person)) {
                shares = shares.add(java.math.BigDecimal.ONE.subtract(leaven)
                    .multiply(java.math.BigDecimal.valueOf(6 / world.who.get(loaf).size())));
            }
        }
        return shares.multiply(java.math.BigDecimal.valueOf(1000)).divideToIntegralValue(java.math.BigDecimal.valueOf(6)).intValue();
    }

    public int votes(int first, int second, int what) {
        if (!aLoaf(first) || !aLoaf(second) || first == second || what < 0 || what > 2) {
            return NONE;
        }
        int[] told = new int[3];
        for (int person = 0; person < town.people.size(); person++) {
            int one = 0;
            int other = 0;
            for (int mood = 0; mood < town.moods.size(); mood++) {
                one += Math.abs(world.felt[person][mood] - world.loaves[first][mood]);
                other += Math.abs(world.felt[person][mood] - world.loaves[second][mood]);
            }
            if (one == other) {
                told[2] += 1 << person;
            } else {
                told[one < other ? 0 : 1]++;
            }
        }
        return told[what];
    }

    private void act() {
        before.add(world.copy());
        if (before.size() > 20) {
            before.remove(0);
        }
    }

    public int go(int n) {
        if (n < 1 || n > 500 || world.hour + n > 9999) {
            return refuse(2);
        }
        act();
        world = hours(world, n);
        return world.hour;
    }

    public int knead(int loaf, int who) {
        if (!aLoaf(loaf) || set(who) == null) {
            return refuse(2);
        }
        act();
        return bits(world.who.set(loaf, set(who)));
    }

    public int calm(int person, int mood, int n) {
        if (!person(person) || !mood(mood) || n < 0 || n > 99) {
            return refuse(2);
        }
        act();
        int was = world.natures[person][mood];
        world.natures[person][mood] = n;
        return was;
    }

    private int draw(int m) {
        drawn = Math.floorMod(1103515245L * drawn + 12345, 2147483648L);
        return (int) (drawn / 64 % m);
    }

    public int days(int n) {
        if (n < 1 || n > 20 || world.hour + 24 * n > 9999) {
            return refuse(2);
        }
        act();
        for (int i = 0; i < n; i++) {
            if (!town.people.isEmpty() && !town.moods.isEmpty()) {
                int[] natures = world.natures[draw(town.people.size())];
                int mood = draw(town.moods.size());
                int way = draw(3);
                natures[mood] = felt(natures[mood] + (way == 2 ? town.whim : way == 0 ? -town.whim : 0));
            }
            world = hours(world, 24);
        }
        return world.hour;
    }

    public boolean undo() {
        if (before.isEmpty()) {
            return refuseIt(3);
        }
        world = before.remove(before.size() - 1);
        return true;
    }

    public boolean seed(int seed) {
        if (seed < 0) {
            return refuseIt(4);
        }
        drawn = seed;
        return true;
    }

    public int see() {
        String text = takeTape();
        List<int[]> rows = new ArrayList<>();
        boolean good = text.length() % 4 == 0;
        for (int i = 0; i + 4 <= text.length(); i += 4) {
            int[] row = text.substring(i, i + 4).chars().toArray();
            good &= person(row[0]) && mood(row[1]) && row[2] <= 200 && row[3] <= 99;
            rows.add(row);
        }
        if (!good || rows.isEmpty() || rows.size() > 20) {
            return refuse(1);
        }
        seen.clear();
        seen.addAll(rows);
        return rows.size();
    }

    private List<List<Integer>> kneadersOf(int loaf) {
        List<List<Integer>> all = sets();
        all.removeIf(who -> {
            for (int[] row : seen) {
                if (!ahead(row[2]) || hours(kneadedBy(loaf, who), row[2]).felt[row[0]][row[1]] != row[3]) {
                    return true;
                }
            }
            return false;
        });
        return all;
    }

    public int kneaders(int loaf, int what) {
        if (!aLoaf(loaf) || what < 0 || what > 3) {
            return NONE;
        }
        List<List<Integer>> all = kneadersOf(loaf);
        int inAll = all.isEmpty() ? 0 : 255;
        int inSome = 0;
        for (List<Integer> who : all) {
            inAll &= bits(who);
            inSome |= bits(who);
        }
        return new int[] {all.size(), inAll, inSome, all.isEmpty() ? NONE : bits(all.get(0))}[what];
    }

    public int look(int loaf, int n, int what) {
        if (!aLoaf(loaf) || !ahead(n) || what < 0 || what > 2) {
            return NONE;
        }
        List<int[][]> all = new ArrayList<>();
        for (List<Integer> who : kneadersOf(loaf)) {
            all.add(hours(kneadedBy(loaf, who), n).felt);
        }
        int[] best = null;
        for (int person = 0; person < town.people.size(); person++) {
            for (int mood = 0; mood < town.moods.size(); mood++) {
                int most = 0;
                for (int[][] one : all) {
                    int alike = 0;
                    for (int[][] other : all) {
                        alike += one[person][mood] == other[person][mood] ? 1 : 0;
                    }
                    most = Math.max(most, alike);
                }
                if (most > 0 && (best == null || most < best[2])) {
                    best = new int[] {person, mood, most};
                }
            }
        }
        return best == null ? NONE : best[what];
    }

    public long ask(int person) {
        String text = takeTape();
        if (!person(person)) {
            return NOTHING;
        }
        fault = null;
        try {
            return answer(new Parser(text), person);
        } catch (Fault found) {
            fault = found;
            return NOTHING;
        }
    }

    private long answer(Parser p, int person) {
        String kind = p.here().text();
        boolean ofTest = Set.of("first", "last", "often").contains(kind);
        if (!ofTest && !Set.of("total", "most", "least").contains(kind)) {
            throw new Fault(1, p.here().at());
        }
        p.next++;
        p.leaves = Set.of("hour", "clock", "day");
        p.unary = Set.of("feel", "nature", "does");
        Test test = ofTest ? p.test() : null;
        Sum sum = ofTest ? null : p.sum();
        if (!p.here().text().isEmpty()) {
            throw new Fault(1, p.here().at());
        }
        List<Long> holds = new ArrayList<>();
        List<Long> sums = new ArrayList<>();
        World w = world;
        for (int n = 0; n < 73 && ahead(n); n++) {
            Scene s = scene(w, person);
            s.done = done(w, person);
            if (ofTest && test.of(s)) {
                holds.add((long) w.hour);
            }
            if (!ofTest) {
                sums.add(sum.of(s));
            }
            w = hours(w, 1);
        }
        return switch (kind) {
            case "first" -> holds.isEmpty() ? NONE : holds.get(0);
            case "last" -> holds.isEmpty() ? NONE : holds.get(holds.size() - 1);
            case "often" -> holds.size();
            case "total" -> sums.stream().mapToLong(x -> x).sum();
            case "most" -> sums.stream().mapToLong(x -> x).max().getAsLong();
            default -> sums.stream().mapToLong(x -> x).min().getAsLong();
        };
    }

    private static int check(List<Integer> octets) {
        int c = 193;
        for (int octet : octets) {
            c = (3 * c + octet) % 251;
        }
        return c;
    }

    public int image() {
        image.clear();
        image.add(world.hour / 256);
        image.add(world.hour % 256);
        for (int person = 0; person < town.people.size(); person++) {
            for (int mood = 0; mood < town.moods.size(); mood++) {
                image.add(world.natures[person][mood]);
                image.add(world.felt[person][mood]);
            }
        }
        for (int loaf = 0; loaf < town.loaves.size(); loaf++) {
            image.add(bits(world.who.get(loaf)));
            for (int mood = 0; mood < town.moods.size(); mood++) {
                image.add(world.loaves[loaf][mood]);
            }
        }
        image.add(check(image));
        return image.size();
    }

    public int octet(int k) {
        return k >= 0 && k < image.size() ? image.get(k) : NONE;
    }

    public boolean on() {
        List<Integer> octets = new ArrayList<>(takeTape().chars().boxed().toList());
        World w = world.copy();
        int people = town.people.size();
        int moods = town.moods.size();
        if (octets.size() != 3 + people * moods * 2 + town.loaves.size() * (1 + moods)) {
            return refuseIt(5);
        }
        int last = octets.remove(octets.size() - 1);
        boolean good = last == check(octets);
        w.hour = octets.remove(0) * 256 + octets.remove(0);
        good &= w.hour <= 9999;
        for (int person = 0; person < people; person++) {
            for (int mood = 0; mood < moods; mood++) {
                w.natures[person][mood] = octets.remove(0);
                w.felt[person][mood] = octets.remove(0);
                good &= w.natures[person][mood] <= 99 && w.felt[person][mood] <= 99;
            }
        }
        for (int loaf = 0; loaf < town.loaves.size(); loaf++) {
            w.who.set(loaf, set(octets.remove(0)));
            good &= w.who.get(loaf) != null;
            for (int mood = 0; mood < moods; mood++) {
                w.loaves[loaf][mood] = octets.remove(0);
                good &= w.loaves[loaf][mood] <= 99;
            }
        }
        if (!good) {
            return refuseIt(5);
        }
        world = w;
        before.clear();
        return true;
    }

    public int status(int what) {
        return what >= 0 && what < 6 ? refused[what] : NONE;
    }
}
