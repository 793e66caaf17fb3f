import java.lang.reflect.Method;
import java.util.ArrayList;
import java.util.List;
import java.util.Random;

/**
 * Random runs of calls on the class and on the Model: towns, questions, images, what is seen, good and spoilt.
 * Arguments: how many runs (500), the first run's number (1).
 */
public final class RandomTest {
    private static final String[] NAMES = {"a", "b", "joy", "ire", "ann", "bob", "cid", "dot", "rye", "bun", "pie", "sing", "riot", "hour",
        "does", "first", "abcdef", "zz", "q", "total"};
    private static final String[] PIECES = {"mood", "person", "is", "loaf", "leaven", "by", "eats", "at", "deed", "when", "turn", "night",
        "bake", "evening", "whim", "clock", "day", "own", "now", "bread", "which", "feel", "nature", "or", "and", "not", "all", "min", "max",
        "hour", "does", "first", "last", "often", "total", "most", "least", ";", "(", ")", "[", "]", ",", "<", ">", "=", "+", "-", "*", "/",
        "0", "5", "24", "99", "100", "101", "9999", "12345", "abcdefg", "evening", "x", "ann", " ", "\n", "\t", "A", "#", "\u00e9"};
    private static final Checks CHECKS = new Checks("RandomTest");

    private final Random random;
    private final MoodBread it = new MoodBread();
    private final Model model = new Model();
    private final StringBuilder calls = new StringBuilder();
    private boolean good = true;

    private RandomTest(long run) {
        random = new Random(run * 7919);
    }

    public static void main(String[] args) throws Exception {
        long runs = args.length > 0 ? Long.parseLong(args[0]) : 500;
        long from = args.length > 1 ? Long.parseLong(args[1]) : 1;
        for (long run = from; run < from + runs; run++) {
            new RandomTest(run).run(run);
        }
        CHECKS.finish();
    }

    private void run(long run) throws Exception {
        int towns = 1 + below(3);
        for (int i = 0; i < towns && good; i++) {
            tape(maybeSpoilt(town(), 3));
            both("town");
            faults();
            if (i == 0) {
                for (int tries = 0; tries < 5 && model.fault(0) != 0; tries++) {
                    tape(town());
                    both("town");
                    faults();
                }
            }
            int steps = 10 + below(50);
            for (int k = 0; k < steps && good; k++) {
                step();
            }
            all();
        }
        if (!good) {
            System.out.println("run " + run + ":\n" + calls);
        }
    }

    // ---- calls on both

    private long both(String name, int... arguments) throws Exception {
        Class<?>[] sorts = new Class<?>[arguments.length];
        Object[] boxed = new Object[arguments.length];
        StringBuilder call = new StringBuilder(name + "(");
        for (int i = 0; i < arguments.length; i++) {
            sorts[i] = int.class;
            boxed[i] = arguments[i];
            call.append(i == 0 ? "" : ", ").append(arguments[i]);
        }
        call.append(")");
        long due = asLong(Model.class.getMethod(name, sorts), model, boxed);
        long got = asLong(MoodBread.class.getMethod(name, sorts), it, boxed);
        calls.append(call).append(" -> ").append(due).append('\n');
        CHECKS.due(call.toString(), got, due);
        good &= got == due;
        return due;
    }

    private static long asLong(Method method, Object on, Object[] arguments) throws Exception {
        method.setAccessible(true);
        Object answer = method.invoke(on, arguments);
        return answer instanceof Boolean ? ((Boolean) answer ? 1 : 0) : ((Number) answer).longValue();
    }

    private void tape(String text) throws Exception {
        calls.append("tape: ").append(text).append('\n');
        both("end", 0);
        for (int i = 0; i < text.length() && i < 1600; i += 20) {
            both("feed", Checks.four(text, i), Checks.four(text, i + 4), Checks.four(text, i + 8), Checks.four(text, i + 12),
                Checks.four(text, i + 16));
        }
        both("end", Math.min(1600, text.length()));
    }

    private void faults() throws Exception {
        both("fault", 0);
        both("fault", 1);
    }

    private int below(int n) {
        return random.nextInt(n);
    }

    /** Mostly one that there is; sometimes the one behind, sometimes quite another. */
    private int one(int count) {
        int kind = below(20);
        return kind == 0 ? count : kind == 1 ? -1 : kind == 2 ? below(1 << 30) - (1 << 29) : below(Math.max(1, count));
    }

    private void step() throws Exception {
        int people = model.has(1);
        int moods = model.has(0);
        int loaves = model.has(2);
        int deeds = model.has(4);
        int ahead = below(3) == 0 ? one(201) : one(30);
        switch (below(24)) {
            case 0 -> both("go", below(4) == 0 ? one(600) : 1 + below(30));
            case 1 -> both("knead", one(loaves), one(1 << people));
            case 2 -> both("calm", one(people), one(moods), one(100));
            case 3 -> both("days", below(6) == 0 ? one(22) : 1);
            case 4 -> both("undo");
            case 5 -> both("seed", below(2) == 0 ? below(Integer.MAX_VALUE) : one(100));
            case 6 -> both("later", one(people), one(moods), ahead);
            case 7 -> both("first", one(3));
            case 8 -> both("often", one(people), one(deeds), ahead);
            case 9 -> both("again", one(2));
            case 10 -> both("hands", one(loaves), one(people), one(moods), below(3) == 0 ? ahead : below(20), one(100), one(2));
            case 11 -> both("blend", one(loaves), one(loaves), one(moods), one(100), one(2));
            case 12 -> both("left", one(loaves), one(people), one(7));
            case 13 -> both("votes", one(loaves), one(loaves), one(3));
            case 14 -> seeRows(people, moods, loaves);
            case 15 -> both("kneaders", one(loaves), one(4));
            case 16 -> both("look", one(loaves), below(3) == 0 ? ahead : below(20), one(3));
            case 17, 18, 19 -> question(people);
            case 20 -> imageOn();
            case 21 -> both("does", one(people), one(deeds));
            case 22 -> both("bread", one(loaves), one(moods));
            default -> both("feels", one(people), one(moods), one(2));
        }
    }

    private void seeRows(int people, int moods, int loaves) throws Exception {
        StringBuilder text = new StringBuilder();
        int rows = below(10) == 0 ? below(23) : 1 + below(3);
        int loaf = below(Math.max(1, loaves));
        int who = 1 + below(Math.max(1, (1 << people) - 1));
        boolean kneaded = loaves > 0 && Integer.bitCount(who) <= 3;
        // what is seen comes true for some kneaders, if nothing is spoilt
        if (kneaded) {
            both("knead", loaf, who);
        }
        for (int i = 0; i < rows; i++) {
            int person = below(Math.max(1, people));
            int mood = below(Math.max(1, moods));
            int n = below(4) == 0 ? below(201) : below(20);
            int felt = model.later(person, mood, n);
            text.append((char) person).append((char) mood).append((char) n).append((char) Math.max(0, felt));
        }
        if (kneaded) {
            both("undo");
        }
        tape(below(8) == 0 ? spoilt(text.toString()) : text.toString());
        both("see");
        both("has", 7);
        for (int what = 0; what < 4; what++) {
            both("kneaders", loaf, what);
            both("look", loaf, 8, what);
        }
    }

    private void imageOn() throws Exception {
        int size = (int) both("image");
        StringBuilder text = new StringBuilder();
        for (int k = -1; k <= size; k++) {
            int octet = (int) both("octet", k);
            if (octet != -1) {
                text.append((char) octet);
            }
        }
        if (below(2) == 0) {
            int at = below(text.length());
            text.setCharAt(at, (char) (below(2) == 0 ? below(100) : below(256)));
            int c = 193;
            for (int i = 0; i < text.length() - 1; i++) {
                c = (3 * c + text.charAt(i)) % 251;
            }
            text.setCharAt(text.length() - 1, (char) c);
        } else if (below(4) == 0) {
            text = new StringBuilder(spoilt(text.toString()));
        }
        both("go", 1 + below(20));
        tape(text.toString());
        both("on");
    }

    private void question(int people) throws Exception {
        String[] ofTest = {"first", "last", "often"};
        String[] ofSum = {"total", "most", "least"};
        String text = below(2) == 0 ? ofTest[below(3)] + " " + test(below(4), 2) : ofSum[below(3)] + " " + sum(below(4), 2);
        tape(maybeSpoilt(text, 5));
        both("ask", one(people));
        faults();
    }

    private void all() throws Exception {
        for (int what = -1; what <= 9; what++) {
            both("has", what);
            both("status", what);
            both("fault", what);
        }
        for (int i = -1; i <= 8; i++) {
            for (int k = -1; k <= 6; k++) {
                for (int kind = 0; kind <= 4; kind++) {
                    both("letter", kind, i, k);
                }
                both("loaf", i, k);
                both("bread", i, k);
                both("does", i, k);
                both("feels", i, k, 0);
                both("feels", i, k, 1);
            }
        }
    }

    // ---- texts

    private String pick(String... all) {
        return all[below(all.length)];
    }

    /** where: 0 turn, night, 1 deeds, 2 questions. */
    private String part(int depth, int where) {
        int kind = below(depth > 0 ? 9 : 4);
        switch (kind) {
            case 0: return "" + below(pickSize());
            case 1: return where == 0 ? pick("own", "now", "bread", "which") : pick("feel ", "nature ") + below(5);
            case 2: return where == 2 ? pick("hour", "does " + below(6), "clock") : pick("clock", "day");
            case 3: return where == 0 ? pick("own", "now", "bread") : "feel " + below(3);
            case 4: return "(" + sum(depth - 1, where) + ")";
            case 5: return pick("min", "max") + pick("", " ") + "(" + sum(depth - 1, where) + "," + sum(depth - 1, where) + ")";
            case 6: return where == 0 ? "(" + sum(depth - 1, where) + ")" : pick("feel ", "nature ") + part(depth - 1, where);
            case 7: return where == 2 ? "does " + part(depth - 1, where) : "" + below(100);
            default: return nested(where);
        }
    }

    /** Few are open at once as a rule, now and then too many. */
    private String nested(int where) {
        int open = below(4) + below(4);
        String inner = part(0, where);
        return where == 0 || below(2) == 0 ? "(".repeat(open) + inner + ")".repeat(open)
            : pick("feel ", "nature ").repeat(open) + "(" + inner + ")";
    }

    private int pickSize() {
        int[] sizes = {3, 10, 100, 10000};
        return sizes[below(4)];
    }

    private String sum(int depth, int where) {
        StringBuilder text = new StringBuilder(part(depth, where));
        for (int i = below(4); i > 0; i--) {
            text.append(pick("+", " - ", "*", " / ")).append(part(depth - 1, where));
        }
        return text.toString();
    }

    private String test(int depth, int where) {
        StringBuilder text = new StringBuilder(fact(depth, where));
        for (int i = below(3); i > 0; i--) {
            text.append(pick(" and ", " or ")).append(fact(depth - 1, where));
        }
        return text.toString();
    }

    private String fact(int depth, int where) {
        int kind = below(depth > 0 ? 8 : 5);
        switch (kind) {
            case 5: return "not ".repeat(1 + below(2) * below(4)) + fact(depth - 1, where);
            case 6: return "[" + test(depth - 1, where) + "]";
            case 7: return "all";
            default: return sum(depth - 1, where) + pick("<", " > ", "=") + sum(depth - 1, where);
        }
    }

    private String town() {
        List<String> names = new ArrayList<>(List.of(NAMES));
        java.util.Collections.shuffle(names, random);
        StringBuilder text = new StringBuilder();
        int moods = below(12) == 0 ? 0 : 1 + below(4);
        int people = below(15) == 0 ? 0 : 1 + below(below(4) == 0 ? 8 : 4);
        int loaves = people == 0 ? 0 : below(6) + (below(3) == 0 ? 0 : 1);
        int deeds = below(4);
        int at = 0;
        for (int i = 0; i < moods; i++) {
            text.append("mood ").append(names.get(at++)).append(";");
        }
        for (int i = 0; i < people; i++) {
            text.append("person ").append(names.get(at++)).append(" is");
            for (int k = 0; k < moods; k++) {
                text.append(' ').append(below(100));
            }
            text.append(";\n");
        }
        for (int i = 0; i < loaves && at < names.size(); i++) {
            text.append("loaf ").append(names.get(at++)).append(" leaven ").append(pick("0", "50", "100", "" + below(101))).append(" by");
            List<String> who = new ArrayList<>(names.subList(moods, moods + people));
            java.util.Collections.shuffle(who, random);
            for (int k = 0; k < 1 + below(3) && k < people; k++) {
                text.append(' ').append(who.get(k));
            }
            text.append(";");
        }
        loaves = Math.min(loaves, at - moods - people);
        for (int i = below(6) + (below(5) == 0 ? below(12) : 1); i > 0 && people > 0 && loaves > 0; i--) {
            text.append("eats ").append(names.get(moods + below(people))).append(' ').append(names.get(moods + people + below(loaves)))
                .append(" at ").append(below(2) == 0 ? 6 + below(4) : below(24)).append(";");
        }
        for (int i = 0; i < deeds && at < names.size(); i++) {
            text.append("deed ").append(names.get(at++)).append(" when ").append(test(below(5), 1)).append("; ");
        }
        if (below(3) > 0) {
            text.append("turn ").append(below(2) == 0 ? "(now + bread) / 2" : sum(below(4), 0)).append(";");
        }
        if (below(3) > 0) {
            text.append("night ").append(below(2) == 0 ? "(own * 3 + now) / 4" : sum(below(4), 0)).append(";");
        }
        for (int i = below(4); i > 0; i--) {
            text.append(pick("bake ", "evening ", "whim ")).append(below(24)).append(";");
        }
        while (below(40) == 0) {
            text.append("whim 5;".repeat(20));
        }
        return text.toString();
    }

    private String maybeSpoilt(String text, int oneOf) {
        String now = text;
        while (below(oneOf) == 0) {
            now = spoilt(now);
        }
        return now;
    }

    private String spoilt(String text) {
        int at = below(text.length() + 1);
        int to = Math.min(text.length(), at + 1 + below(3));
        switch (below(8)) {
            case 0: return text.substring(0, at);
            case 1: return text.substring(0, at) + text.substring(to);
            case 2: return text.substring(0, at) + pick(PIECES) + text.substring(to);
            case 3: return text.substring(0, at) + pick(PIECES) + text.substring(at);
            case 4: return text.substring(0, at) + " " + pick(PIECES) + " " + text.substring(at);
            case 5: return swapped(text, pick(PIECES));
            case 6: return otherNumber(text);
            default: return text + (text.length() < 700 ? text.substring(at) : pick(PIECES));
        }
    }

    /** One number becomes another one, that often can't be. */
    private String otherNumber(String text) {
        int at = below(text.length() + 1);
        while (at < text.length() && !Character.isDigit(text.charAt(at))) {
            at++;
        }
        int to = at;
        while (to < text.length() && Character.isDigit(text.charAt(to))) {
            to++;
        }
        return text.substring(0, at) + pick("24", "99", "100", "101", "9999", "00000") + text.substring(to);
    }

    /** One token becomes another one. */
    private String swapped(String text, String other) {
        int from = below(text.length() + 1);
        while (from > 0 && Character.isLetterOrDigit(text.charAt(from - 1))) {
            from--;
        }
        int to = from;
        while (to < text.length() && Character.isLetterOrDigit(text.charAt(to))) {
            to++;
        }
        return text.substring(0, from) + other + text.substring(to);
    }
}
