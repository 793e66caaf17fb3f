import java.util.Arrays;

/** A town whose bread takes after whoever kneaded it. The README tells how it is used. */
public final class MoodBread {
    public static final int NONE = -1;
    public static final long NOTHING = -1000000000000000L;

    // The kinds of what a TOWN has, in the order in which has() counts them.
    private static final int MOODS = 0;
    private static final int PEOPLE = 1;
    private static final int LOAVES = 2;
    private static final int MEALS = 3;
    private static final int DEEDS = 4;
    private static final int[] MOST_OF = {4, 8, 6, 16, 6};

    // Tables hold a row of this many for each of the PEOPLE and each LOAF (MOODS), for each kind (NAMES).
    private static final int MOOD_ROW = 4;
    private static final int NAME_ROW = 8;
    private static final int CELLS = 32; // eight PEOPLE by four MOODS

    private static final int MOST_BYTES = 1600;
    private static final int FED_AT_ONCE = 20;
    private static final int MOST_STATEMENTS = 60;
    private static final int MOST_LETTERS = 6;
    private static final int LETTER_BITS = 5;
    private static final int MOST_DIGITS = 4;
    private static final int MOST_OPEN = 6;
    private static final int MOST_SUM = 1000000;
    private static final int MOST_FELT = 99;
    private static final int MOST_KNEADING = 3;
    private static final int MOST_SETS = 92;
    private static final int MOST_HOUR = 9999;
    private static final int MOST_AHEAD = 200;
    private static final int MOST_AT_ONCE = 500;
    private static final int MOST_DAYS = 20;
    private static final int MOST_AGAIN = 8;
    private static final int MOST_BAKINGS = 6;
    private static final int MOST_PARTS = 9;
    private static final int MOST_UNDONE = 20;
    private static final int MOST_SEEN = 20;
    private static final int SEEN_ROW = 4;
    private static final int ASKED_HOURS = 73;
    private static final int MOST_IMAGE = 97;
    private static final int HOURS_A_DAY = 24;

    // Each word has eight places, so that its number is its place by 8.
    private static final int WORD_ROW = 8;
    private static final String STATEMENT_WORDS =
        "mood    person  is      loaf    leaven  by      eats    at      deed    when    turn    night   bake    evening whim    ";
    private static final String SUM_WORDS =
        "all     clock   day     own     now     bread   which   feel    nature  not     or      and     min     max     ";
    private static final String QUESTION_WORDS =
        "hour    does    first   last    often   total   most    least   ";
    private static final int W_MOOD = 0;
    private static final int W_PERSON = 1;
    private static final int W_IS = 2;
    private static final int W_LOAF = 3;
    private static final int W_LEAVEN = 4;
    private static final int W_BY = 5;
    private static final int W_EATS = 6;
    private static final int W_AT = 7;
    private static final int W_DEED = 8;
    private static final int W_WHEN = 9;
    private static final int W_TURN = 10;
    private static final int W_NIGHT = 11;
    private static final int W_BAKE = 12;
    private static final int W_EVENING = 13;
    private static final int W_WHIM = 14;
    private static final int W_ALL = 15;
    private static final int W_CLOCK = 16;
    private static final int W_DAY = 17;
    private static final int W_OWN = 18;
    private static final int W_NOW = 19;
    private static final int W_BREAD = 20;
    private static final int W_WHICH = 21;
    private static final int W_FEEL = 22;
    private static final int W_NATURE = 23;
    private static final int W_NOT = 24;
    private static final int W_OR = 25;
    private static final int W_AND = 26;
    private static final int W_MIN = 27;
    private static final int W_MAX = 28;
    // The words from here on are words of QUESTIONS alone: a TOWN may take them for NAMES.
    private static final int W_HOUR = 29;
    private static final int W_DOES = 30;
    private static final int W_FIRST = 31;
    private static final int W_LAST = 32;
    private static final int W_OFTEN = 33;
    private static final int W_TOTAL = 34;
    private static final int W_MOST = 35;
    private static final int W_LEAST = 36;
    private static final int ALL_WORDS = 37;

    // What a token of the tape is.
    private static final int AT_END = 0;
    private static final int A_WORD = 1;
    private static final int A_NUMBER = 2;
    private static final int A_SIGN = 3;
    private static final int A_JOINED = 4;

    // Where a SUM or a TEST stands: it tells which words it may have.
    private static final int IN_TURN = 0;
    private static final int IN_DEED = 1;
    private static final int IN_QUESTION = 2;

    // The pieces of a TOWN's code: its DEEDS, then turn and night.
    private static final int TURN_PIECE = 6;
    private static final int NIGHT_PIECE = 7;
    private static final int PIECES = 8;

    // Codes from here on are numbers, those below are words' numbers and signs' bytes.
    private static final int NUMBERS_FROM = 256;
    private static final int MOST_STACKED = 64;

    private final TownReader townReader = new TownReader();
    private final Grammar grammar = townReader.grammar;
    private final Reader reader = grammar.reader;
    private final int[] tape = reader.text;
    private int taped = 0;
    private final Code question = new Code();
    private Town current = new Town();
    private Town spare = new Town();
    private final Life life = new Life();
    private final State present = new State();
    private final State trial = new State();
    private final State[] dawns = new State[MOST_AGAIN + 1];
    private final History history = new History();
    private final Guesses guesses = new Guesses();
    private final Image picture = new Image();
    private long drawn = 1;
    private final int[] refusals = new int[6];

    public MoodBread() {
        for (int i = 0; i < dawns.length; i++) {
            dawns[i] = new State();
        }
    }

    public int feed(int a, int b, int c, int d, int e) {
        if (taped + FED_AT_ONCE > MOST_BYTES) {
            return refuse(0);
        }
        putBytes(a);
        putBytes(b);
        putBytes(c);
        putBytes(d);
        putBytes(e);
        return taped;
    }

    public boolean end(int n) {
        if (n < 0 || n > taped) {
            refuse(0);
            return false;
        }
        taped = n;
        return true;
    }

    public int town() {
        boolean good = townReader.readTown(taped, spare);
        taped = 0;
        if (!good) {
            return refuse(1);
        }
        Town before = current;
        current = spare;
        spare = before;
        present.begin(current);
        guesses.rows = 0;
        history.kept = 0;
        return current.statements;
    }

    public int fault(int what) {
        switch (what) {
            case 0: return reader.fault;
            case 1: return reader.place;
            default: return NONE;
        }
    }

    public int has(int what) {
        if (what >= MOODS && what <= DEEDS) {
            return current.counts[what];
        }
        switch (what) {
            case 5: return present.hour;
            case 6: return deedsDoneNow();
            case 7: return guesses.rows;
            case 8: return history.kept;
            default: return NONE;
        }
    }

    public int letter(int kind, int which, int k) {
        if (kind < 0 || kind > 3 || k < 0 || k >= MOST_LETTERS) {
            return NONE;
        }
        int sort = kind == 3 ? DEEDS : kind;
        if (!isThere(sort, which)) {
            return NONE;
        }
        return current.names[sort * NAME_ROW + which] >> (LETTER_BITS * k) & 31;
    }

    public int feels(int person, int mood, int what) {
        if (!areThere(PEOPLE, person, mood)) {
            return NONE;
        }
        switch (what) {
            case 0: return present.felt[person * MOOD_ROW + mood];
            case 1: return present.natures[person * MOOD_ROW + mood];
            default: return NONE;
        }
    }

    public int bread(int loaf, int mood) {
        return areThere(LOAVES, loaf, mood) ? present.baked[loaf * MOOD_ROW + mood] : NONE;
    }

    public int loaf(int loaf, int what) {
        if (!isThere(LOAVES, loaf)) {
            return NONE;
        }
        switch (what) {
            case 0: return current.leavens[loaf];
            case 1: return present.kneading[loaf];
            case 2: return current.mealsOf(loaf);
            default: return NONE;
        }
    }

    public int does(int person, int deed) {
        if (!isThere(PEOPLE, person) || !isThere(DEEDS, deed)) {
            return NONE;
        }
        return life.deedsDone(current, present, person) >> deed & 1;
    }

    // ---- ahead

    public int later(int person, int mood, int n) {
        if (!areThere(PEOPLE, person, mood) || !isAhead(n)) {
            return NONE;
        }
        trial.takeOver(present);
        life.goThrough(current, trial, n);
        return trial.felt[person * MOOD_ROW + mood];
    }

    public int first(int what) {
        if (what < 0 || what > 2) {
            return NONE;
        }
        trial.takeOver(present);
        for (int n = 0; n <= MOST_AHEAD && isAhead(n); n++) {
            if (n > 0) {
                life.hourComes(current, trial);
            }
            for (int person = 0; person < current.counts[PEOPLE]; person++) {
                int done = life.deedsDone(current, trial, person);
                if (done != 0) {
                    return what == 0 ? n : what == 1 ? person : lowestOf(done);
                }
            }
        }
        return NONE;
    }

    public int often(int person, int deed, int n) {
        if (!isThere(PEOPLE, person) || !isThere(DEEDS, deed) || n < 1 || n > MOST_AHEAD) {
            return NONE;
        }
        int times = 0;
        trial.takeOver(present);
        for (int i = 0; i < n && isAhead(i); i++) {
            if (i > 0) {
                life.hourComes(current, trial);
            }
            times += life.deedsDone(current, trial, person) >> deed & 1;
        }
        return times;
    }

    public int again(int what) {
        if (what != 0 && what != 1) {
            return NONE;
        }
        dawns[0].takeOver(present);
        for (int k = 1; k < dawns.length && isAhead(k * HOURS_A_DAY); k++) {
            dawns[k].takeOver(dawns[k - 1]);
            life.goThrough(current, dawns[k], HOURS_A_DAY);
            for (int j = 0; j < k; j++) {
                if (dawns[k].isLike(dawns[j])) {
                    return what == 0 ? k : k - j;
                }
            }
        }
        return NONE;
    }

    // ---- hands, blends, leaven, votes

    public int hands(int loaf, int person, int mood, int n, int number, int what) {
        if (!isThere(LOAVES, loaf) || !areThere(PEOPLE, person, mood) || !isAhead(n)
            || !isFelt(number) || what < 0 || what > 1) {
            return NONE;
        }
        int best = NONE;
        int bestFelt = NONE;
        int sets = 1 << current.counts[PEOPLE];
        for (int who = 1; who < sets; who++) {
            if (Integer.bitCount(who) > MOST_KNEADING) {
                continue;
            }
            trial.takeOver(present);
            trial.kneading[loaf] = who;
            life.goThrough(current, trial, n);
            int felt = trial.felt[person * MOOD_ROW + mood];
            int nearer = Math.abs(bestFelt - number) - Math.abs(felt - number);
            // The sets come by their bits, so of like ones the earlier one stays.
            if (best == NONE || nearer > 0 || nearer == 0 && Integer.bitCount(who) < Integer.bitCount(best)) {
                best = who;
                bestFelt = felt;
            }
        }
        return what == 0 ? best : bestFelt;
    }

    public int blend(int first, int second, int mood, int number, int what) {
        if (!areThere(LOAVES, first, mood) || !areThere(LOAVES, second, mood) || first == second
            || !isFelt(number) || what < 0 || what > 1) {
            return NONE;
        }
        int x = present.baked[first * MOOD_ROW + mood] - number;
        int y = present.baked[second * MOOD_ROW + mood] - number;
        int best = 11;
        int bestOff = Math.abs(x + y);
        int bestParts = 2;
        for (int a = 1; a <= MOST_PARTS; a++) {
            for (int b = 1; b <= MOST_PARTS; b++) {
                // What it is off the number, as a fraction by a + b: compared crosswise, so that it is exact.
                int off = Math.abs(a * x + b * y);
                if (off * bestParts < bestOff * (a + b)) {
                    best = 10 * a + b;
                    bestOff = off;
                    bestParts = a + b;
                }
            }
        }
        return what == 0 ? best : bestOff == 0 ? 1 : 0;
    }

    public int left(int loaf, int person, int n) {
        if (!isThere(LOAVES, loaf) || !isThere(PEOPLE, person) || n < 0 || n > MOST_BAKINGS) {
            return NONE;
        }
        int who = present.kneading[loaf];
        int kneading = Integer.bitCount(who);
        if ((who >> person & 1) == 0 || kneading == 0) {
            return 0;
        }
        // All that is no longer of what was there ahead of the first baking is shared alike by those who knead.
        long whole = 1;
        long old = 1;
        for (int i = 0; i < n; i++) {
            whole *= 100;
            old *= current.leavens[loaf];
        }
        return (int) (1000 * (whole - old) / (whole * kneading));
    }

    public int votes(int first, int second, int what) {
        if (!isThere(LOAVES, first) || !isThere(LOAVES, second) || first == second || what < 0 || what > 2) {
            return NONE;
        }
        int forFirst = 0;
        int forSecond = 0;
        int neither = 0;
        for (int person = 0; person < current.counts[PEOPLE]; person++) {
            int further = unlikeness(person, first) - unlikeness(person, second);
            if (further < 0) {
                forFirst++;
            } else if (further > 0) {
                forSecond++;
            } else {
                neither |= 1 << person;
            }
        }
        return what == 0 ? forFirst : what == 1 ? forSecond : neither;
    }

    // ---- acts

    public int go(int n) {
        if (n < 1 || n > MOST_AT_ONCE || present.hour + n > MOST_HOUR) {
            return refuse(2);
        }
        history.keep(present);
        life.goThrough(current, present, n);
        return present.hour;
    }

    public int knead(int loaf, int who) {
        if (!isThere(LOAVES, loaf) || !current.canKnead(who)) {
            return refuse(2);
        }
        history.keep(present);
        int before = present.kneading[loaf];
        present.kneading[loaf] = who;
        return before;
    }

    public int calm(int person, int mood, int n) {
        if (!areThere(PEOPLE, person, mood) || !isFelt(n)) {
            return refuse(2);
        }
        history.keep(present);
        int before = present.natures[person * MOOD_ROW + mood];
        present.natures[person * MOOD_ROW + mood] = n;
        return before;
    }

    public int days(int n) {
        if (n < 1 || n > MOST_DAYS || present.hour + n * HOURS_A_DAY > MOST_HOUR) {
            return refuse(2);
        }
        history.keep(present);
        for (int i = 0; i < n; i++) {
            followWhim();
            life.goThrough(current, present, HOURS_A_DAY);
        }
        return present.hour;
    }

    public boolean undo() {
        if (!history.takeBack(present)) {
            refuse(3);
            return false;
        }
        return true;
    }

    public boolean seed(int seed) {
        if (seed < 0) {
            refuse(4);
            return false;
        }
        drawn = seed;
        return true;
    }

    // ---- who kneaded, where to look

    public int see() {
        boolean good = guesses.readRows(tape, taped, current);
        taped = 0;
        return good ? guesses.rows : refuse(1);
    }

    public int kneaders(int loaf, int what) {
        if (!isThere(LOAVES, loaf) || what < 0 || what > 3) {
            return NONE;
        }
        guesses.findSets(current, present, loaf);
        switch (what) {
            case 0: return guesses.found;
            case 1: return guesses.inAll();
            case 2: return guesses.inSome();
            default: return guesses.found > 0 ? guesses.sets[0] : NONE;
        }
    }

    public int look(int loaf, int n, int what) {
        if (!isThere(LOAVES, loaf) || !isAhead(n) || what < 0 || what > 2) {
            return NONE;
        }
        guesses.findSets(current, present, loaf);
        if (guesses.found == 0) {
            return NONE;
        }
        guesses.foresee(current, present, loaf, n);
        int best = NONE;
        int fewest = NONE;
        for (int person = 0; person < current.counts[PEOPLE]; person++) {
            for (int mood = 0; mood < current.counts[MOODS]; mood++) {
                int cell = person * MOOD_ROW + mood;
                int alike = guesses.mostAlike(cell);
                if (best == NONE || alike < fewest) {
                    best = cell;
                    fewest = alike;
                }
            }
        }
        if (best == NONE) {
            return NONE;
        }
        return what == 0 ? best / MOOD_ROW : what == 1 ? best % MOOD_ROW : fewest;
    }

    // ---- questions

    public long ask(int person) {
        int length = taped;
        taped = 0;
        if (!isThere(PEOPLE, person)) {
            return NOTHING;
        }
        int kind = grammar.readQuestion(length, question);
        return kind == NONE ? NOTHING : answer(kind, person);
    }

    // ---- images, refusals

    public int image() {
        picture.write(current, present);
        return picture.size;
    }

    public int octet(int k) {
        return k >= 0 && k < picture.size ? picture.bytes[k] : NONE;
    }

    public boolean on() {
        boolean good = Image.isOne(tape, taped, current);
        taped = 0;
        if (!good) {
            refuse(5);
            return false;
        }
        Image.read(tape, current, present);
        history.kept = 0;
        return true;
    }

    public int status(int what) {
        return what >= 0 && what < refusals.length ? refusals[what] : NONE;
    }

    // ---- what the calls have in common

    private int refuse(int kind) {
        refusals[kind]++;
        return NONE;
    }

    private void putBytes(int number) {
        for (int shift = 24; shift >= 0 && taped < tape.length; shift -= 8) {
            tape[taped] = number >>> shift & 255;
            taped++;
        }
    }

    private boolean isThere(int kind, int which) {
        return which >= 0 && which < current.counts[kind];
    }

    private boolean areThere(int kind, int which, int mood) {
        return isThere(kind, which) && isThere(MOODS, mood);
    }

    private boolean isAhead(int n) {
        return n >= 0 && n <= MOST_AHEAD && present.hour + n <= MOST_HOUR;
    }

    private static boolean isFelt(int number) {
        return number >= 0 && number <= MOST_FELT;
    }

    private static int asFelt(int sum) {
        return Math.max(0, Math.min(MOST_FELT, sum));
    }

    private int deedsDoneNow() {
        int done = 0;
        for (int person = 0; person < current.counts[PEOPLE]; person++) {
            done += Integer.bitCount(life.deedsDone(current, present, person));
        }
        return done;
    }

    private static int lowestOf(int bits) {
        int lowest = 0;
        while (lowest < MOST_OF[DEEDS] && (bits >> lowest & 1) == 0) {
            lowest++;
        }
        return lowest;
    }

    private int unlikeness(int person, int loaf) {
        int unlike = 0;
        for (int mood = 0; mood < current.counts[MOODS]; mood++) {
            unlike += Math.abs(present.felt[person * MOOD_ROW + mood] - present.baked[loaf * MOOD_ROW + mood]);
        }
        return unlike;
    }

    private void followWhim() {
        int people = current.counts[PEOPLE];
        int moods = current.counts[MOODS];
        if (people == 0 || moods == 0) {
            return;
        }
        int person = draw(people);
        int mood = draw(moods);
        int more = draw(3) - 1;
        int cell = person * MOOD_ROW + mood;
        present.natures[cell] = asFelt(present.natures[cell] + more * current.whim);
    }

    private int draw(int m) {
        drawn = (1103515245L * drawn + 12345) & 0x7fffffffL;
        return m > 0 ? (int) (drawn / 64 % m) : 0;
    }

    private long answer(int kind, int person) {
        long told = kind == W_FIRST || kind == W_LAST ? NONE : 0;
        trial.takeOver(present);
        for (int n = 0; n < ASKED_HOURS && isAhead(n); n++) {
            if (n > 0) {
                life.hourComes(current, trial);
            }
            int value = life.valueAsked(current, question, trial, person);
            switch (kind) {
                case W_FIRST: told = told == NONE && value != 0 ? trial.hour : told; break;
                case W_LAST: told = value != 0 ? trial.hour : told; break;
                case W_MOST: told = n == 0 ? value : Math.max(told, value); break;
                case W_LEAST: told = n == 0 ? value : Math.min(told, value); break;
                default: told += value; // TESTS are 1 or 0, so that often is a total too
            }
        }
        return told;
    }

    /** What is told of a TOWN: it stays as it is, however many HOURS come. */
    private static final class Town {
        int statements;
        final int[] counts = new int[MOST_OF.length];
        final int[] names = new int[MOST_OF.length * NAME_ROW];
        final int[] natures = new int[CELLS];
        final int[] leavens = new int[MOST_OF[LOAVES]];
        final int[] kneading = new int[MOST_OF[LOAVES]];
        final int[] eaters = new int[MOST_OF[MEALS]];
        final int[] eaten = new int[MOST_OF[MEALS]];
        final int[] mealClocks = new int[MOST_OF[MEALS]];
        final Code code = new Code();
        final int[] from = new int[PIECES];
        final int[] to = new int[PIECES];
        int bake;
        int evening;
        int whim;
        int busyClocks;

        Town() {
            clear();
        }

        void clear() {
            statements = 0;
            Arrays.fill(counts, 0);
            code.size = 0;
            Arrays.fill(from, 0);
            Arrays.fill(to, 0);
            bake = 5;
            evening = 18;
            whim = 0;
        }

        /** Most HOURS bring nothing: this tells which do, as bits. */
        void findBusyClocks() {
            busyClocks = 1 << bake | 1 << evening;
            for (int meal = 0; meal < counts[MEALS]; meal++) {
                busyClocks |= 1 << mealClocks[meal];
            }
        }

        boolean isTold(int piece) {
            return to[piece] > from[piece];
        }

        int mealsOf(int loaf) {
            int meals = 0;
            for (int meal = 0; meal < counts[MEALS]; meal++) {
                if (eaten[meal] == loaf) {
                    meals++;
                }
            }
            return meals;
        }

        boolean canKnead(int who) {
            return who > 0 && who < 1 << counts[PEOPLE] && Integer.bitCount(who) <= MOST_KNEADING;
        }

        boolean isNamed(int name) {
            for (int kind = MOODS; kind <= DEEDS; kind++) {
                if (kind != MEALS && numberOf(kind, name) != NONE) {
                    return true;
                }
            }
            return false;
        }

        int numberOf(int kind, int name) {
            for (int which = 0; which < counts[kind] && which < NAME_ROW; which++) {
                if (names[kind * NAME_ROW + which] == name) {
                    return which;
                }
            }
            return NONE;
        }
    }

    /** How all are in one HOUR. */
    private static final class State {
        int hour;
        final int[] natures = new int[CELLS];
        final int[] felt = new int[CELLS];
        final int[] baked = new int[MOST_OF[LOAVES] * MOOD_ROW];
        final int[] kneading = new int[MOST_OF[LOAVES]];

        void begin(Town town) {
            hour = 0;
            copy(town.natures, natures);
            copy(town.natures, felt);
            Arrays.fill(baked, 0);
            copy(town.kneading, kneading);
        }

        void takeOver(State other) {
            hour = other.hour;
            copy(other.natures, natures);
            copy(other.felt, felt);
            copy(other.baked, baked);
            copy(other.kneading, kneading);
        }

        boolean isLike(State other) {
            return areLike(natures, other.natures) && areLike(felt, other.felt) && areLike(baked, other.baked);
        }

        private static void copy(int[] source, int[] target) {
            System.arraycopy(source, 0, target, 0, Math.min(source.length, target.length));
        }

        private static boolean areLike(int[] one, int[] other) {
            for (int i = 0; i < one.length && i < other.length; i++) {
                if (one[i] != other[i]) {
                    return false;
                }
            }
            return true;
        }
    }

    /** SUMS and TESTS, each word, sign and number behind what it works on. */
    private static final class Code {
        final int[] steps = new int[MOST_BYTES];
        int size = 0;

        boolean add(int step) {
            if (size >= steps.length) {
                return false;
            }
            steps[size] = step;
            size++;
            return true;
        }
    }

    /** The words, numbers and signs of the tape, one after the other, and the first FAULT found. */
    private static final class Reader {
        final int[] text = new int[MOST_BYTES];
        private int length = 0;
        private int behind = 0;
        int kind = AT_END;
        int at = 0;
        int word = NONE;
        /** A word's letters (five bits each, the first lowest), a number, or a sign's byte. */
        int value = 0;
        int fault = 0;
        int place = NONE;

        void start(int count) {
            length = Math.max(0, Math.min(count, text.length));
            behind = 0;
            kind = AT_END;
            fault = 0;
            place = NONE;
            next();
        }

        void next() {
            int end = behind;
            boolean needsBlank = kind == A_WORD || kind == A_NUMBER;
            at = end;
            while (at < length && isBlank(text[at])) {
                at++;
            }
            kind = at < length ? sortOf(text[at]) : AT_END;
            behind = at < length ? at + 1 : at;
            while ((kind == A_WORD || kind == A_NUMBER) && behind < length && sortOf(text[behind]) == kind) {
                behind++;
            }
            word = kind == A_WORD ? wordNumber() : NONE;
            switch (kind) {
                case A_WORD: value = letters(); break;
                case A_NUMBER: value = digits(); break;
                case A_SIGN: value = text[at]; break;
                default: value = 0;
            }
            if (needsBlank && at == end && (kind == A_WORD || kind == A_NUMBER)) {
                kind = A_JOINED;
            }
        }

        private int letters() {
            int packed = 0;
            for (int i = 0; i < MOST_LETTERS && at + i < behind; i++) {
                packed |= (text[at + i] - 'a' + 1) << (LETTER_BITS * i);
            }
            return packed;
        }

        private int digits() {
            int number = 0;
            for (int i = 0; i < MOST_DIGITS && at + i < behind; i++) {
                number = 10 * number + text[at + i] - '0';
            }
            return number;
        }

        private int wordNumber() {
            int letters = behind - at;
            for (int number = 0; number < ALL_WORDS && letters < WORD_ROW; number++) {
                String words = number < W_ALL ? STATEMENT_WORDS : number < W_HOUR ? SUM_WORDS : QUESTION_WORDS;
                int start = (number < W_ALL ? number : number < W_HOUR ? number - W_ALL : number - W_HOUR) * WORD_ROW;
                int same = 0;
                while (same < letters && start + same < words.length() && words.charAt(start + same) == text[at + same]) {
                    same++;
                }
                if (same == letters && start + same < words.length() && words.charAt(start + same) == ' ') {
                    return number;
                }
            }
            return NONE;
        }

        private static boolean isBlank(int octet) {
            return octet == 10 || octet == 32;
        }

        private static int sortOf(int octet) {
            if (octet >= 'a' && octet <= 'z') {
                return A_WORD;
            }
            return octet >= '0' && octet <= '9' ? A_NUMBER : A_SIGN;
        }

        int size() {
            return behind - at;
        }

        boolean isWord(int number) {
            return kind == A_WORD && word == number;
        }

        boolean isSign(int octet) {
            return kind == A_SIGN && value == octet;
        }

        /** Notes the FAULT, and is always false, as what the reading answers then. */
        boolean wrong(int number, int where) {
            fault = number;
            place = where;
            return false;
        }

        boolean takeWord(int number) {
            if (!isWord(number)) {
                return wrong(1, at);
            }
            next();
            return true;
        }

        boolean takeSign(int octet) {
            if (!isSign(octet)) {
                return wrong(1, at);
            }
            next();
            return true;
        }

        /** Whether a number of 4 digits at most stands here; if not, that is the FAULT. */
        boolean checkNumber() {
            if (kind != A_NUMBER) {
                return wrong(1, at);
            }
            return size() <= MOST_DIGITS || wrong(1, at + MOST_DIGITS);
        }

        /** Takes a number up to the given one; NONE with a FAULT. */
        int takeNumber(int most) {
            if (!checkNumber()) {
                return NONE;
            }
            int number = value;
            if (number > most) {
                wrong(2, at);
                return NONE;
            }
            next();
            return number;
        }

        /** Whether what stands here can be a NAME, whosever; if not, that is the FAULT. */
        boolean checkName() {
            if (kind != A_WORD || word != NONE && word < W_HOUR) {
                return wrong(1, at);
            }
            return size() <= MOST_LETTERS || wrong(1, at + MOST_LETTERS);
        }
    }

    /** Reads SUMS, TESTS and QUESTIONS. Whatever is open at once is counted, so that no reading goes deep. */
    private static final class Grammar {
        final Reader reader = new Reader();
        int where = IN_TURN;

        /** Which QUESTION it is: the number of its first word; NONE with a FAULT. */
        int readQuestion(int length, Code code) {
            code.size = 0;
            where = IN_QUESTION;
            reader.start(length);
            int kind = reader.kind == A_WORD && reader.word >= W_FIRST ? reader.word : NONE;
            if (kind == NONE) {
                reader.wrong(1, reader.at);
                return NONE;
            }
            reader.next();
            boolean ofTest = kind == W_FIRST || kind == W_LAST || kind == W_OFTEN;
            boolean good = ofTest ? test(code, 0) : sum(code, 0);
            if (good && reader.kind != AT_END) {
                good = reader.wrong(1, reader.at);
            }
            return good ? kind : NONE;
        }

        private boolean test(Code code, int open) {
            boolean good = both(code, open);
            for (int n = 0; n < MOST_BYTES && good && reader.isWord(W_OR); n++) {
                reader.next();
                good = both(code, open) && code.add(W_OR);
            }
            return good;
        }

        private boolean both(Code code, int open) {
            boolean good = fact(code, open);
            for (int n = 0; n < MOST_BYTES && good && reader.isWord(W_AND); n++) {
                reader.next();
                good = fact(code, open) && code.add(W_AND);
            }
            return good;
        }

        private boolean fact(Code code, int open) {
            if (reader.isWord(W_NOT)) {
                if (!mayOpen(open)) {
                    return false;
                }
                reader.next();
                return fact(code, open + 1) && code.add(W_NOT);
            }
            if (reader.isSign('[')) {
                if (!mayOpen(open)) {
                    return false;
                }
                reader.next();
                return test(code, open + 1) && reader.takeSign(']');
            }
            if (reader.isWord(W_ALL)) {
                reader.next();
                return code.add(W_ALL);
            }
            if (!sum(code, open)) {
                return false;
            }
            if (!reader.isSign('<') && !reader.isSign('>') && !reader.isSign('=')) {
                return reader.wrong(1, reader.at);
            }
            int sign = reader.value;
            reader.next();
            return sum(code, open) && code.add(sign);
        }

        private boolean sum(Code code, int open) {
            boolean good = product(code, open);
            for (int n = 0; n < MOST_BYTES && good && (reader.isSign('+') || reader.isSign('-')); n++) {
                int sign = reader.value;
                reader.next();
                good = product(code, open) && code.add(sign);
            }
            return good;
        }

        private boolean product(Code code, int open) {
            boolean good = part(code, open);
            for (int n = 0; n < MOST_BYTES && good && (reader.isSign('*') || reader.isSign('/')); n++) {
                int sign = reader.value;
                reader.next();
                good = part(code, open) && code.add(sign);
            }
            return good;
        }

        private boolean part(Code code, int open) {
            if (reader.kind == A_NUMBER) {
                if (!reader.checkNumber()) {
                    return false;
                }
                int number = reader.value;
                reader.next();
                return code.add(NUMBERS_FROM + number);
            }
            if (reader.isSign('(')) {
                if (!mayOpen(open)) {
                    return false;
                }
                reader.next();
                return sum(code, open + 1) && reader.takeSign(')');
            }
            if (reader.kind != A_WORD) {
                return reader.wrong(1, reader.at);
            }
            int word = reader.word;
            if (word == W_MIN || word == W_MAX) {
                reader.next();
                return pair(code, open) && code.add(word);
            }
            if (isAskedOfNumber(word)) {
                if (!mayOpen(open)) {
                    return false;
                }
                reader.next();
                return part(code, open + 1) && code.add(word);
            }
            if (!isAlone(word)) {
                return reader.wrong(1, reader.at);
            }
            reader.next();
            return code.add(word);
        }

        private boolean pair(Code code, int open) {
            if (!reader.isSign('(')) {
                return reader.wrong(1, reader.at);
            }
            if (!mayOpen(open)) {
                return false;
            }
            reader.next();
            return sum(code, open + 1) && reader.takeSign(',') && sum(code, open + 1) && reader.takeSign(')');
        }

        private boolean mayOpen(int open) {
            return open < MOST_OPEN || reader.wrong(4, reader.at);
        }

        private boolean isAskedOfNumber(int word) {
            switch (word) {
                case W_FEEL:
                case W_NATURE: return where != IN_TURN;
                case W_DOES: return where == IN_QUESTION;
                default: return false;
            }
        }

        private boolean isAlone(int word) {
            switch (word) {
                case W_CLOCK:
                case W_DAY: return true;
                case W_OWN:
                case W_NOW:
                case W_BREAD:
                case W_WHICH: return where == IN_TURN;
                case W_HOUR: return where == IN_QUESTION;
                default: return false;
            }
        }
    }

    /** Reads the STATEMENTS of a TOWN. */
    private static final class TownReader {
        final Grammar grammar = new Grammar();
        private final Reader reader = grammar.reader;

        boolean readTown(int length, Town town) {
            town.clear();
            reader.start(length);
            for (int n = 0; n <= MOST_STATEMENTS && reader.kind != AT_END; n++) {
                if (n == MOST_STATEMENTS) {
                    return reader.wrong(5, reader.at);
                }
                boolean good;
                switch (reader.kind == A_WORD ? reader.word : NONE) {
                    case W_MOOD: good = readMood(town); break;
                    case W_PERSON: good = readPerson(town); break;
                    case W_LOAF: good = readLoaf(town); break;
                    case W_EATS: good = readMeal(town); break;
                    case W_DEED: good = readDeed(town); break;
                    case W_TURN: good = readOnce(town, TURN_PIECE); break;
                    case W_NIGHT: good = readOnce(town, NIGHT_PIECE); break;
                    case W_BAKE:
                    case W_EVENING:
                    case W_WHIM: good = readSetting(town); break;
                    default: good = reader.wrong(1, reader.at);
                }
                if (!good || !reader.takeSign(';')) {
                    return false;
                }
                town.statements++;
            }
            town.findBusyClocks();
            return true;
        }

        private boolean readMood(Town town) {
            if (town.counts[PEOPLE] > 0) {
                return reader.wrong(5, reader.at);
            }
            return readNew(town, MOODS);
        }

        private boolean readPerson(Town town) {
            int person = town.counts[PEOPLE];
            if (!readNew(town, PEOPLE) || !reader.takeWord(W_IS)) {
                return false;
            }
            for (int mood = 0; mood < town.counts[MOODS]; mood++) {
                int nature = reader.takeNumber(MOST_FELT);
                if (nature == NONE) {
                    return false;
                }
                town.natures[person * MOOD_ROW + mood] = nature;
            }
            return true;
        }

        private boolean readLoaf(Town town) {
            int loaf = town.counts[LOAVES];
            if (!readNew(town, LOAVES) || !reader.takeWord(W_LEAVEN)) {
                return false;
            }
            int leaven = reader.takeNumber(100);
            if (leaven == NONE || !reader.takeWord(W_BY)) {
                return false;
            }
            int who = 0;
            for (int n = 0; n == 0 || n <= MOST_KNEADING && reader.kind == A_WORD; n++) {
                if (n == MOST_KNEADING) {
                    return reader.wrong(5, reader.at);
                }
                int person = findNamed(town, PEOPLE);
                if (person == NONE) {
                    return false;
                }
                if ((who >> person & 1) != 0) {
                    return reader.wrong(3, reader.at);
                }
                who |= 1 << person;
                reader.next();
            }
            town.leavens[loaf] = leaven;
            town.kneading[loaf] = who;
            return true;
        }

        private boolean readMeal(Town town) {
            int meal = town.counts[MEALS];
            if (meal >= MOST_OF[MEALS]) {
                return reader.wrong(5, reader.at);
            }
            reader.next();
            int person = findNamed(town, PEOPLE);
            if (person == NONE) {
                return false;
            }
            reader.next();
            int loaf = findNamed(town, LOAVES);
            if (loaf == NONE) {
                return false;
            }
            reader.next();
            int clock = reader.takeWord(W_AT) ? reader.takeNumber(HOURS_A_DAY - 1) : NONE;
            if (clock == NONE) {
                return false;
            }
            town.eaters[meal] = person;
            town.eaten[meal] = loaf;
            town.mealClocks[meal] = clock;
            town.counts[MEALS]++;
            return true;
        }

        private boolean readDeed(Town town) {
            int deed = town.counts[DEEDS];
            if (!readNew(town, DEEDS) || !reader.takeWord(W_WHEN)) {
                return false;
            }
            town.from[deed] = town.code.size;
            grammar.where = IN_DEED;
            boolean good = grammar.test(town.code, 0);
            town.to[deed] = town.code.size;
            return good;
        }

        private boolean readOnce(Town town, int piece) {
            if (town.isTold(piece)) {
                return reader.wrong(5, reader.at);
            }
            reader.next();
            town.from[piece] = town.code.size;
            grammar.where = IN_TURN;
            boolean good = grammar.sum(town.code, 0);
            town.to[piece] = town.code.size;
            return good;
        }

        private boolean readSetting(Town town) {
            int setting = reader.word;
            reader.next();
            int number = reader.takeNumber(setting == W_WHIM ? MOST_FELT : HOURS_A_DAY - 1);
            if (number == NONE) {
                return false;
            }
            if (setting == W_BAKE) {
                town.bake = number;
            } else if (setting == W_EVENING) {
                town.evening = number;
            } else {
                town.whim = number;
            }
            return true;
        }

        /** The first word of the STATEMENT, then the NAME that it gives to one more of the kind. */
        private boolean readNew(Town town, int kind) {
            if (town.counts[kind] >= MOST_OF[kind]) {
                return reader.wrong(5, reader.at);
            }
            reader.next();
            if (!reader.checkName()) {
                return false;
            }
            if (town.isNamed(reader.value)) {
                return reader.wrong(3, reader.at);
            }
            town.names[kind * NAME_ROW + town.counts[kind]] = reader.value;
            town.counts[kind]++;
            reader.next();
            return true;
        }

        /** Which one of the kind bears the NAME here; NONE with a FAULT. It is not gone past yet. */
        private int findNamed(Town town, int kind) {
            if (!reader.checkName()) {
                return NONE;
            }
            int which = town.numberOf(kind, reader.value);
            if (which == NONE) {
                reader.wrong(3, reader.at);
            }
            return which;
        }
    }

    /** Reckons SUMS and TESTS from their codes (a TEST that holds is 1). */
    private static final class Sums {
        private final int[] stack = new int[MOST_STACKED];
        int moods = 0;
        int which = 0;
        int bread = 0;
        int done = 0;

        int value(int[] steps, int from, int to, State all, int person) {
            int top = 0;
            for (int i = Math.max(0, from); i < to && i < steps.length; i++) {
                int step = steps[i];
                int needs = needed(step);
                if (top < needs || top - needs >= stack.length) {
                    return 0;
                }
                if (needs == 2) {
                    top--;
                    stack[top - 1] = joined(step, stack[top - 1], stack[top]);
                } else if (needs == 1) {
                    stack[top - 1] = askedOf(step, stack[top - 1], all, person);
                } else {
                    stack[top] = step >= NUMBERS_FROM ? step - NUMBERS_FROM : alone(step, all, person);
                    top++;
                }
            }
            return top > 0 ? stack[top - 1] : 0;
        }

        private static int needed(int step) {
            switch (step) {
                case W_FEEL:
                case W_NATURE:
                case W_DOES:
                case W_NOT: return 1;
                case W_OR:
                case W_AND:
                case W_MIN:
                case W_MAX:
                case '+':
                case '-':
                case '*':
                case '/':
                case '<':
                case '>':
                case '=': return 2;
                default: return 0;
            }
        }

        private static int joined(int step, int a, int b) {
            switch (step) {
                case W_OR: return a | b;
                case W_AND: return a & b;
                case W_MIN: return Math.min(a, b);
                case W_MAX: return Math.max(a, b);
                case '+': return held((long) a + b);
                case '-': return held((long) a - b);
                case '*': return held((long) a * b);
                case '/': return b == 0 ? 0 : Math.floorDiv(a, b);
                case '<': return a < b ? 1 : 0;
                case '>': return a > b ? 1 : 0;
                default: return a == b ? 1 : 0;
            }
        }

        private static int held(long number) {
            return (int) Math.max(-MOST_SUM, Math.min(MOST_SUM, number));
        }

        private int askedOf(int step, int number, State all, int person) {
            if (step == W_NOT) {
                return 1 - number;
            }
            if (step == W_DOES) {
                return number >= 0 && number < MOST_OF[DEEDS] ? done >> number & 1 : 0;
            }
            if (number < 0 || number >= moods) {
                return 0;
            }
            int cell = person * MOOD_ROW + number;
            return step == W_FEEL ? all.felt[cell] : all.natures[cell];
        }

        private int alone(int step, State all, int person) {
            switch (step) {
                case W_ALL: return 1;
                case W_CLOCK: return all.hour % HOURS_A_DAY;
                case W_DAY: return all.hour / HOURS_A_DAY;
                case W_HOUR: return all.hour;
                case W_OWN: return all.natures[person * MOOD_ROW + which];
                case W_NOW: return all.felt[person * MOOD_ROW + which];
                case W_BREAD: return bread;
                case W_WHICH: return which;
                default: return 0;
            }
        }
    }

    /** How HOURS come: what is baked, eaten, slept over, done. */
    private static final class Life {
        private final Sums sums = new Sums();

        void goThrough(Town town, State all, int hours) {
            for (int i = 0; i < hours; i++) {
                hourComes(town, all);
            }
        }

        void hourComes(Town town, State all) {
            all.hour++;
            int clock = all.hour % HOURS_A_DAY;
            if ((town.busyClocks >> clock & 1) == 0) {
                return;
            }
            if (clock == town.bake) {
                for (int loaf = 0; loaf < town.counts[LOAVES]; loaf++) {
                    bakeLoaf(town, all, loaf);
                }
            }
            for (int meal = 0; meal < town.counts[MEALS]; meal++) {
                if (town.mealClocks[meal] == clock) {
                    eat(town, all, meal);
                }
            }
            if (clock == town.evening) {
                for (int person = 0; person < town.counts[PEOPLE]; person++) {
                    sleep(town, all, person);
                }
            }
        }

        private static void bakeLoaf(Town town, State all, int loaf) {
            int who = all.kneading[loaf];
            int n = Integer.bitCount(who);
            if (n == 0) {
                return;
            }
            int leaven = town.leavens[loaf];
            for (int mood = 0; mood < town.counts[MOODS]; mood++) {
                int together = 0;
                for (int person = 0; person < town.counts[PEOPLE]; person++) {
                    if ((who >> person & 1) != 0) {
                        together += all.felt[person * MOOD_ROW + mood];
                    }
                }
                int cell = loaf * MOOD_ROW + mood;
                all.baked[cell] = ((100 - leaven) * together + leaven * n * all.baked[cell]) / (100 * n);
            }
        }

        // A SUM of turn or night asks of its own MOOD alone, so that one MOOD after the other is
        // all MOODS by what one was ahead of it.

        private void eat(Town town, State all, int meal) {
            int person = town.eaters[meal];
            int loaf = town.eaten[meal];
            boolean turns = town.isTold(TURN_PIECE);
            for (int mood = 0; mood < town.counts[MOODS]; mood++) {
                int tasted = all.baked[loaf * MOOD_ROW + mood];
                if (turns) {
                    sums.which = mood;
                    sums.bread = tasted;
                    tasted = sums.value(town.code.steps, town.from[TURN_PIECE], town.to[TURN_PIECE], all, person);
                }
                all.felt[person * MOOD_ROW + mood] = asFelt(tasted);
            }
        }

        private void sleep(Town town, State all, int person) {
            boolean turns = town.isTold(NIGHT_PIECE);
            for (int mood = 0; mood < town.counts[MOODS]; mood++) {
                int cell = person * MOOD_ROW + mood;
                if (turns) {
                    sums.which = mood;
                    sums.bread = 0;
                    int sum = sums.value(town.code.steps, town.from[NIGHT_PIECE], town.to[NIGHT_PIECE], all, person);
                    all.natures[cell] = asFelt(sum);
                }
                all.felt[cell] = all.natures[cell];
            }
        }

        /** The DEEDS that one does, as bits. */
        int deedsDone(Town town, State all, int person) {
            int done = 0;
            sums.moods = town.counts[MOODS];
            for (int deed = 0; deed < town.counts[DEEDS]; deed++) {
                if (sums.value(town.code.steps, town.from[deed], town.to[deed], all, person) != 0) {
                    done |= 1 << deed;
                }
            }
            return done;
        }

        int valueAsked(Town town, Code question, State all, int person) {
            sums.done = deedsDone(town, all, person);
            return sums.value(question.steps, 0, question.size, all, person);
        }
    }

    /** The States ahead of the latest ACTS, on a ring. */
    private static final class History {
        private final State[] ring = new State[MOST_UNDONE];
        private int next = 0;
        int kept = 0;

        History() {
            for (int i = 0; i < ring.length; i++) {
                ring[i] = new State();
            }
        }

        void keep(State all) {
            ring[next].takeOver(all);
            next = (next + 1) % MOST_UNDONE;
            kept = Math.min(kept + 1, MOST_UNDONE);
        }

        boolean takeBack(State all) {
            if (kept <= 0) {
                return false;
            }
            next = (next + MOST_UNDONE - 1) % MOST_UNDONE;
            kept--;
            all.takeOver(ring[next]);
            return true;
        }
    }

    /** What is SEEN, the KNEADERS that it leaves, and what comes of each. */
    private static final class Guesses {
        private final Life life = new Life();
        private final State trial = new State();
        private final int[] seen = new int[MOST_SEEN * SEEN_ROW];
        int rows = 0;
        final int[] sets = new int[MOST_SETS];
        int found = 0;
        private final int[] foreseen = new int[MOST_SETS * CELLS];
        private final int[] tally = new int[MOST_FELT + 1];

        boolean readRows(int[] tape, int length, Town town) {
            if (length < SEEN_ROW || length > seen.length || length > tape.length || length % SEEN_ROW != 0) {
                return false;
            }
            for (int i = 0; i + SEEN_ROW <= length; i += SEEN_ROW) {
                if (tape[i] >= town.counts[PEOPLE] || tape[i + 1] >= town.counts[MOODS]
                    || tape[i + 2] > MOST_AHEAD || tape[i + 3] > MOST_FELT) {
                    return false;
                }
            }
            System.arraycopy(tape, 0, seen, 0, length);
            rows = length / SEEN_ROW;
            return true;
        }

        void findSets(Town town, State now, int loaf) {
            found = 0;
            int last = lastSeen();
            if (now.hour + last > MOST_HOUR) {
                return;
            }
            int all = 1 << town.counts[PEOPLE];
            for (int who = 1; who < all && found < sets.length; who++) {
                if (Integer.bitCount(who) <= MOST_KNEADING) {
                    trial.takeOver(now);
                    trial.kneading[loaf] = who;
                    if (isAsSeen(town, last)) {
                        sets[found] = who;
                        found++;
                    }
                }
            }
        }

        private int lastSeen() {
            int last = 0;
            for (int row = 0; row < rows; row++) {
                last = Math.max(last, seen[row * SEEN_ROW + 2]);
            }
            return last;
        }

        private boolean isAsSeen(Town town, int last) {
            for (int n = 0; n <= last; n++) {
                if (n > 0) {
                    life.hourComes(town, trial);
                }
                for (int row = 0; row < rows; row++) {
                    int i = row * SEEN_ROW;
                    if (seen[i + 2] == n && trial.felt[seen[i] * MOOD_ROW + seen[i + 1]] != seen[i + 3]) {
                        return false;
                    }
                }
            }
            return true;
        }

        int inAll() {
            int bits = found > 0 ? sets[0] : 0;
            for (int i = 1; i < found; i++) {
                bits &= sets[i];
            }
            return bits;
        }

        int inSome() {
            int bits = 0;
            for (int i = 0; i < found; i++) {
                bits |= sets[i];
            }
            return bits;
        }

        /** What all are n HOURS AHEAD by each of the KNEADERS found. */
        void foresee(Town town, State now, int loaf, int n) {
            for (int i = 0; i < found; i++) {
                trial.takeOver(now);
                trial.kneading[loaf] = sets[i];
                life.goThrough(town, trial, n);
                System.arraycopy(trial.felt, 0, foreseen, i * CELLS, CELLS);
            }
        }

        /** How many of the KNEADERS leave one alike by a MOOD, at the most. */
        int mostAlike(int cell) {
            int most = 0;
            Arrays.fill(tally, 0);
            for (int i = 0; i < found; i++) {
                int felt = asFelt(foreseen[i * CELLS + cell]);
                tally[felt]++;
                most = Math.max(most, tally[felt]);
            }
            return most;
        }
    }

    /** AN IMAGE, written and read. */
    private static final class Image {
        final int[] bytes = new int[MOST_IMAGE];
        int size = 0;

        void write(Town town, State all) {
            size = 0;
            put(all.hour >> 8);
            put(all.hour & 255);
            for (int person = 0; person < town.counts[PEOPLE]; person++) {
                for (int mood = 0; mood < town.counts[MOODS]; mood++) {
                    put(all.natures[person * MOOD_ROW + mood]);
                    put(all.felt[person * MOOD_ROW + mood]);
                }
            }
            for (int loaf = 0; loaf < town.counts[LOAVES]; loaf++) {
                put(all.kneading[loaf]);
                for (int mood = 0; mood < town.counts[MOODS]; mood++) {
                    put(all.baked[loaf * MOOD_ROW + mood]);
                }
            }
            put(check(bytes, size));
        }

        private void put(int octet) {
            if (size < bytes.length) {
                bytes[size] = octet;
                size++;
            }
        }

        private static int check(int[] octets, int count) {
            int c = 193;
            for (int i = 0; i < count && i < octets.length; i++) {
                c = (3 * c + octets[i]) % 251;
            }
            return c;
        }

        static boolean isOne(int[] octets, int length, Town town) {
            int moods = town.counts[MOODS];
            int ofPeople = 2 * moods * town.counts[PEOPLE];
            int ofLoaves = (1 + moods) * town.counts[LOAVES];
            if (length != 3 + ofPeople + ofLoaves || length > octets.length
                || 256 * octets[0] + octets[1] > MOST_HOUR
                || octets[length - 1] != check(octets, length - 1)) {
                return false;
            }
            for (int i = 2; i < 2 + ofPeople; i++) {
                if (octets[i] > MOST_FELT) {
                    return false;
                }
            }
            for (int i = 0; i < ofLoaves; i++) {
                int octet = octets[2 + ofPeople + i];
                boolean good = i % (1 + moods) == 0 ? town.canKnead(octet) : octet <= MOST_FELT;
                if (!good) {
                    return false;
                }
            }
            return true;
        }

        /** Only for what isOne() has found to be AN IMAGE. */
        static void read(int[] octets, Town town, State all) {
            all.hour = 256 * octets[0] + octets[1];
            int at = 2;
            for (int person = 0; person < town.counts[PEOPLE]; person++) {
                for (int mood = 0; mood < town.counts[MOODS]; mood++) {
                    all.natures[person * MOOD_ROW + mood] = octets[at];
                    all.felt[person * MOOD_ROW + mood] = octets[at + 1];
                    at += 2;
                }
            }
            for (int loaf = 0; loaf < town.counts[LOAVES]; loaf++) {
                all.kneading[loaf] = octets[at];
                at++;
                for (int mood = 0; mood < town.counts[MOODS]; mood++) {
                    all.baked[loaf * MOOD_ROW + mood] = octets[at];
                    at++;
                }
            }
        }
    }
}
