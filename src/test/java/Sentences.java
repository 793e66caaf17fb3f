/** What the tests of the document's sentences share; each of them is a static method with a {@link Sentence}. */
abstract class Sentences {
    static final int NONE = MoodBread.NONE;
    static final long NOTHING = MoodBread.NOTHING;
    static final Checks CHECKS = new Checks("BoundaryTest");

    /** Three people, two loaves: Ann and Bob knead rye (nothing kept), Cid kneads bun (half is kept). */
    static final String TOWN = "mood joy; mood ire;"
        + "person ann is 80 10; person bob is 20 60; person cid is 50 0;"
        + "loaf rye leaven 0 by ann bob; loaf bun leaven 50 by cid;"
        + "eats cid rye at 7; eats ann bun at 8; eats bob rye at 8;"
        + "deed sing when feel 0 > 60; deed riot when feel 1 > 30 and clock > 6;"
        + "turn (now + bread) / 2;";

    /** As many of each kind as there can be: 43 STATEMENTS. */
    static final String FULL = full();

    /** Which sentence is looked at; BoundaryTest sets it. */
    static String about = "";

    private static String full() {
        StringBuilder text = new StringBuilder("mood a;mood b;mood c;mood d;");
        for (char c = 'a'; c <= 'h'; c++) {
            text.append("person p").append(c).append(" is 1 2 3 ").append(c - 'a' + 4).append(';');
        }
        for (char c = 'a'; c <= 'f'; c++) {
            text.append("loaf l").append(c).append(" leaven 0 by p").append(c).append(';');
        }
        for (int i = 0; i < 16; i++) {
            text.append("eats p").append((char) ('a' + i % 8)).append(" l").append((char) ('a' + i % 6)).append(" at ").append(i).append(';');
        }
        for (char c = 'a'; c <= 'f'; c++) {
            text.append("deed d").append(c).append(" when all;");
        }
        return text.append("turn (now + bread) / 2;night own;whim 5;").toString();
    }

    static void due(String what, long got, long want) {
        CHECKS.due(about + what, got, want);
    }

    static void due(String what, boolean got, boolean want) {
        CHECKS.due(about + what, got, want);
    }

    static MoodBread townOf(String text) {
        return Checks.townOf(text);
    }

    /** The text is a TOWN, of as many STATEMENTS as it has semicolons. */
    static void good(String text) {
        MoodBread x = new MoodBread();
        due("town of " + text, Checks.town(x, text), text.chars().filter(c -> c == ';').count());
        due("fault of " + text, x.fault(0), 0);
        due("place of the fault of " + text, x.fault(1), NONE);
    }

    /** The text is no TOWN: its FAULT is this one, where the | stands. */
    static void fault(int number, String marked) {
        MoodBread x = new MoodBread();
        int place = marked.indexOf('|');
        due("town of " + marked, Checks.town(x, marked.substring(0, place) + marked.substring(place + 1)), NONE);
        due("fault of " + marked, x.fault(0), number);
        due("place of the fault of " + marked, x.fault(1), place);
    }

    static final String ASKED = "mood m;mood n;person p is 9 40;deed yes when all;deed no when not all;";

    static void goodQuestion(String text) {
        MoodBread x = townOf(ASKED);
        due("question " + text, Checks.ask(x, 0, text) == NOTHING, false);
        due("fault of " + text, x.fault(0), 0);
        due("place of the fault of " + text, x.fault(1), NONE);
    }

    static void questionFault(int number, String marked) {
        MoodBread x = townOf(ASKED);
        int place = marked.indexOf('|');
        due("question " + marked, Checks.ask(x, 0, marked.substring(0, place) + marked.substring(place + 1)), NOTHING);
        due("fault of " + marked, x.fault(0), number);
        due("place of the fault of " + marked, x.fault(1), place);
    }

    static void asked(MoodBread x, String question, long want) {
        due(question, Checks.ask(x, 0, question), want);
    }

    /** Whether a TEST holds for one who is 9 and 40, in a DEED and in a QUESTION. */
    static void holds(String test, boolean want) {
        MoodBread x = townOf("mood m;mood n;person p is 9 40;deed d when " + test + ";");
        due("deed d when " + test, x.does(0, 0), want ? 1 : 0);
        due("often " + test, Checks.ask(x, 0, "often " + test) == 73, want);
        due("first " + test, Checks.ask(x, 0, "first " + test) == 0, want);
    }

    /** A SUM of numbers alone: in QUESTIONS, a DEED, turn, night. */
    static void sum(String text, int want) {
        int other = want == -1000000 ? want + 1 : want - 1;
        MoodBread x = townOf("mood m;person p is 50;loaf l leaven 0 by p;eats p l at 1;evening 2;turn " + text + ";night " + text
            + ";deed d when " + text + "=" + number(want) + ";deed e when " + number(other) + "=" + text + ";");
        due("most " + text, Checks.ask(x, 0, "most " + text), want);
        due("least " + text, Checks.ask(x, 0, "least " + text), want);
        due("deed d when " + text + " = " + want, x.does(0, 0), 1);
        due("deed d when " + other + " = " + text, x.does(0, 1), 0);
        int felt = Math.max(0, Math.min(99, want));
        due("turn " + text, x.later(0, 0, 1), felt);
        due("night " + text, x.later(0, 0, 2), felt);
    }

    private static String number(int n) {
        return n < 0 ? "(0-" + number(-n) + ")" : n > 9999 ? "(" + n / 1000 + "*1000+" + n % 1000 + ")" : "" + n;
    }

    /** Numbers that are none of 0 .. count - 1. */
    static int[] outside(int count) {
        return new int[] {-1, count, count + 1, count + 100, Integer.MAX_VALUE, Integer.MIN_VALUE};
    }

    static void toHour(MoodBread x, int hour) {
        while (x.has(5) < hour) {
            x.go(Math.min(500, hour - x.has(5)));
        }
    }

    static MoodBread townAt(String text, int hour) {
        MoodBread x = townOf(text);
        toHour(x, hour);
        return x;
    }

    /** AN IMAGE with its last byte put right. */
    static String checked(String image) {
        int c = 193;
        for (int i = 0; i < image.length() - 1; i++) {
            c = (3 * c + image.charAt(i)) % 251;
        }
        return image.substring(0, image.length() - 1) + (char) c;
    }

    /** AN IMAGE of these bytes behind those of the HOUR. */
    static String imageOf(int hour, int... octets) {
        return checked(Checks.bytes(hour / 256, hour % 256) + Checks.bytes(octets) + "?");
    }

    static String with(String image, int at, int octet) {
        return checked(image.substring(0, at) + (char) octet + image.substring(at + 1));
    }

    /** All that the calls that ask can tell of small towns, in a few calls: nothing of it changes where all stays. */
    static String all(MoodBread x) {
        StringBuilder all = new StringBuilder(Checks.image(x));
        for (int what = 0; what <= 8; what++) {
            all.append(' ').append(x.has(what));
        }
        for (int loaf = 0; loaf < Math.min(2, x.has(2)); loaf++) {
            all.append(' ').append(x.kneaders(loaf, 0)).append(' ').append(x.loaf(loaf, 0)).append(' ').append(x.loaf(loaf, 2));
        }
        return all.append(' ').append(x.later(0, 0, 24)).append(' ').append(x.letter(1, 0, 0)).toString();
    }

    static long drawn(long x) {
        return (1103515245L * x + 12345) % 2147483648L;
    }
}
