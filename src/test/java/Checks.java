/** What the tests share: texts brought onto the tape, answers compared. */
final class Checks {
    private final String about;
    private int wrong = 0;
    private int made = 0;

    Checks(String about) {
        this.about = about;
    }

    void due(String what, long got, long want) {
        made++;
        if (got != want) {
            wrong++;
            System.out.println(about + ": " + what + " answered " + got + ", due is " + want);
        }
    }

    void due(String what, boolean got, boolean want) {
        due(what, got ? 1 : 0, want ? 1 : 0);
    }

    void finish() {
        System.out.println(about + ": " + made + " answers, " + wrong + " not as due");
        if (wrong != 0) {
            System.exit(1);
        }
    }

    /** Brings the text alone onto the tape, a byte for each character. */
    static void tape(MoodBread x, String text) {
        x.end(0);
        for (int i = 0; i < text.length(); i += 20) {
            x.feed(four(text, i), four(text, i + 4), four(text, i + 8), four(text, i + 12), four(text, i + 16));
        }
        x.end(text.length());
    }

    static int four(String text, int from) {
        int number = 0;
        for (int i = from; i < from + 4; i++) {
            number = number << 8 | (i < text.length() ? text.charAt(i) : ' ');
        }
        return number;
    }

    static int town(MoodBread x, String text) {
        tape(x, text);
        return x.town();
    }

    static MoodBread townOf(String text) {
        MoodBread x = new MoodBread();
        if (town(x, text) < 0) {
            throw new IllegalStateException("fault " + x.fault(0) + " at " + x.fault(1) + " in " + text);
        }
        return x;
    }

    static long ask(MoodBread x, int person, String text) {
        tape(x, text);
        return x.ask(person);
    }

    static String bytes(int... octets) {
        StringBuilder text = new StringBuilder();
        for (int octet : octets) {
            text.append((char) octet);
        }
        return text.toString();
    }

    static int see(MoodBread x, int... octets) {
        tape(x, bytes(octets));
        return x.see();
    }

    /** The image as a text, to be brought back onto the tape. */
    static String image(MoodBread x) {
        int size = x.image();
        StringBuilder text = new StringBuilder();
        for (int k = 0; k < size; k++) {
            text.append((char) x.octet(k));
        }
        return text.toString();
    }

    static boolean on(MoodBread x, String image) {
        tape(x, image);
        return x.on();
    }
}
