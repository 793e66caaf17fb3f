import java.util.function.IntSupplier;

/** The promises 1 to 33, the constants, and how long an object is used. */
final class CallSentences extends Sentences {
    private static final String P = "mood m;person p is 5;";
    private static final String L = P + "loaf l leaven 0 by p;";
    private static final String FOUR = "person a is;person b is;person c is;person d is;loaf l leaven 0 by a;";

    private CallSentences() {
    }

    /** Each of these calls answers NONE, and is not counted as refused. */
    private static void nones(MoodBread x, IntSupplier... calls) {
        for (int i = 0; i < calls.length; i++) {
            due("call " + i, calls[i].getAsInt(), NONE);
        }
        for (int kind = 0; kind < 6; kind++) {
            due("refused " + kind, x.status(kind), 0);
        }
    }

    /** Each of these acts is refused: NONE, all stays, status(2) counts it. */
    private static void refusedActs(MoodBread x, IntSupplier... calls) {
        String before = all(x);
        int refused = x.status(2);
        for (int i = 0; i < calls.length; i++) {
            due("call " + i, calls[i].getAsInt(), NONE);
            due("refused by call " + i, x.status(2), refused + i + 1);
        }
        due("all stays", all(x).equals(before), true);
        for (int kind = 0; kind < 6; kind++) {
            due("refused " + kind, x.status(kind), kind == 2 ? refused + calls.length : 0);
        }
    }

    private static int tapeAfterwards(MoodBread x) {
        return x.feed(0, 0, 0, 0, 0);
    }

    // ---- what it is, the constants

    @Sentence(at = "What it is", says = "An object is used for at most 512 calls after it has been made; what later calls answer is free.")
    static void p00_512Calls() {
        MoodBread x = townOf(FULL);
        int calls = 0;
        int size = (FULL.length() + 19) / 20;
        calls += 2 + size + 1;
        for (; calls < 509; calls++) {
            switch (calls % 4) {
                case 0: x.go(3); break;
                case 1: x.hands(calls % 6, 1, 1, 200, 50, 0); break;
                case 2: x.kneaders(calls % 6, 1); break;
                default: x.look(calls % 6, 200, 2);
            }
        }
        due("call 510", x.has(8), 20);
        due("call 511", x.undo(), true);
        due("call 512", x.has(8), 19);
        // what is free may be anything, but LANGUAGE.md lets no call fail
        for (int i = 0; i < 200; i++) {
            x.feed(i, i, i, i, i);
            x.go(1);
        }
        x.town();
    }

    @Sentence(at = "The constants", says = "`NONE = -1`: There is none; it is refused.")
    static void p00_none() {
        due("NONE", MoodBread.NONE, -1);
        due("none", new MoodBread().octet(0), -1);
        due("refused", new MoodBread().go(0), -1);
    }

    @Sentence(at = "The constants", says = "`NOTHING = -1000000000000000L`: Told where a number below 0 may be one.")
    static void p00_nothing() {
        due("NOTHING", MoodBread.NOTHING, -1000000000000000L);
        MoodBread x = townOf(P);
        asked(x, "least 0 - 1", -1);
        asked(x, "first own = 1", -1000000000000000L);
    }

    // ---- a new object, the tape

    @Sentence(at = "Promise 1", says = "No MOODS, nobody.")
    static void p01_newObject() {
        MoodBread x = new MoodBread();
        for (int what = 0; what <= 8; what++) {
            due("has(" + what + ")", x.has(what), 0);
        }
        due("the tape is empty", x.end(1), false);
        due("feels", x.feels(0, 0, 0), NONE);
        due("bread", x.bread(0, 0), NONE);
        due("loaf", x.loaf(0, 0), NONE);
        due("letter", x.letter(0, 0, 0), NONE);
        due("first", x.first(0), NONE);
        due("HOURS come all the same", x.go(500), 500);
        due("image", x.image(), 3);
        due("nobody is asked", Checks.ask(x, 0, "often all"), NOTHING);
        due("nothing is SEEN of nobody", Checks.see(x, 0, 0, 0, 0), NONE);
    }

    @Sentence(at = "Promise 2", says = "Twenty bytes come behind those on the tape, of each number the highest first: how many there are;")
    static void p02_twentyBytes() {
        MoodBread x = new MoodBread();
        // "mood abcdef;" then "whim 5; "
        due("feed", x.feed(0x6d6f6f64, 0x20616263, 0x6465663b, 0x7768696d, 0x20353b20), 20);
        due("feed", x.feed(0x6d6f6f64, 0x207a793b, 0x20202020, 0x20202020, 0x20202020), 40);
        due("behind those there", x.town(), 3);
        due("f", x.letter(0, 0, 5), 6);
        due("z", x.letter(0, 1, 0), 26);
        for (int i = 1; i <= 80; i++) {
            due("feed", x.feed(-1, Integer.MIN_VALUE, Integer.MAX_VALUE, 0, i), 20 * i);
        }
        MoodBread y = new MoodBread();
        y.feed(0x0000e7ff, -1, -1, -1, -1);
        y.end(3);
        due("a byte above 127", y.on(), true);
    }

    @Sentence(at = "Promise 2", says = "NONE, refused (0), if there would be more than 1600.")
    static void p02_refusedAbove1600() {
        MoodBread x = new MoodBread();
        for (int i = 1; i <= 80; i++) {
            x.feed(0x20202020, 0x20202020, 0x20202020, 0x20202020, 0x20202020);
        }
        due("1620", x.feed(0, 0, 0, 0, 0), NONE);
        due("refused", x.status(0), 1);
        due("1600 stay", x.end(1600), true);
        x.end(1581);
        due("1601", x.feed(0, 0, 0, 0, 0), NONE);
        due("1581 stay", x.end(1581), true);
        due("but no more", x.end(1582), false);
        x.end(1580);
        due("1600", x.feed(0x20202020, 0x20202020, 0x20202020, 0x20202020, 0x77686921), 1600);
        due("refused", x.status(0), 3);
        due("all are read", x.town(), NONE);
        due("the last one, too", x.fault(1), 1596);
        String text = " ".repeat(1593) + "whim 5;";
        due("a TOWN of 1600", Checks.town(x, text), 1);
    }

    @Sentence(at = "Promise 3", says = "The tape has its first n bytes alone: true;")
    static void p03_firstBytesAlone() {
        MoodBread x = new MoodBread();
        due("none of none", x.end(0), true);
        Checks.tape(x, "whim 1;whim 2;whim 100;");
        due("all", x.end(23), true);
        due("14", x.end(14), true);
        due("two STATEMENTS", x.town(), 2);
        Checks.tape(x, "whim 1;whim 2;");
        due("none", x.end(0), true);
        due("no STATEMENT", x.town(), 0);
        Checks.tape(x, "whim 1;##############");
        x.end(7);
        due("behind 7", x.feed(0x7768696d, 0x20323b20, 0x20202020, 0x20202020, 0x20202020), 27);
        due("two STATEMENTS", x.town(), 2);
        due("refused", x.status(0), 0);
    }

    @Sentence(at = "Promise 3", says = "false, refused (0), if it has not so many,")
    static void p03_notSoMany() {
        MoodBread x = new MoodBread();
        due("1 of none", x.end(1), false);
        x.feed(0, 0, 0, 0, 0);
        due("20 of 20", x.end(20), true);
        due("21 of 20", x.end(21), false);
        due("the most of 20", x.end(Integer.MAX_VALUE), false);
        x.end(5);
        due("6 of 5", x.end(6), false);
        due("refused", x.status(0), 4);
        due("all stays", tapeAfterwards(x), 25);
    }

    @Sentence(at = "Promise 3", says = "or n is below 0.")
    static void p03_below0() {
        MoodBread x = new MoodBread();
        x.feed(0, 0, 0, 0, 0);
        due("-1", x.end(-1), false);
        due("the least", x.end(Integer.MIN_VALUE), false);
        due("refused", x.status(0), 2);
        due("all stays", tapeAfterwards(x), 40);
        due("0", x.end(0), true);
    }

    // ---- the TOWN

    @Sentence(at = "Promise 4", says = "The tape (it goes) is THE TOWN: how many STATEMENTS;")
    static void p04_theTapeIsTheTown() {
        MoodBread x = new MoodBread();
        due("none", x.town(), 0);
        due("3", Checks.town(x, "mood a; mood b; whim 5; "), 3);
        due("the tape goes", tapeAfterwards(x), 20);
        due("FULL", Checks.town(x, FULL), 43);
        due("60", Checks.town(x, "whim 5;".repeat(60)), 60);
        due("nothing of the TOWN before", x.has(0) + x.has(1) + x.has(2) + x.has(3) + x.has(4), 0);
        due("none", Checks.town(x, ""), 0);
        for (int i = 0; i < 5; i++) {
            due("turn and night of the TOWNS before are gone", Checks.town(x, P + "turn 7;night 8;"), 4);
            due("turn and night of the TOWNS before are gone", Checks.town(x, "night 8;turn 7;" + P), 4);
        }
        String longest = L + "eats p l at 6;turn 0" + "+1".repeat(690) + "-1".repeat(70) + ";";
        for (int i = 0; i < 4; i++) {
            due("as long as can be", Checks.town(x, longest + " ".repeat(1600 - longest.length())), 5);
            due("all of it is reckoned", x.later(0, 0, 6), 99);
        }
    }

    @Sentence(at = "Promise 4", says = "NONE, refused (1), with a FAULT (all stays).")
    static void p04_withAFaultAllStays() {
        MoodBread x = townOf(TOWN);
        x.go(30);
        x.knead(0, 4);
        Checks.see(x, 0, 0, 0, 80);
        String before = all(x);
        String[] faulty = {"mood a; mood a;", "mood zzz;person ppp is 77;loaf lll leaven 99 by ppp;eats ppp lll at 7;turn 99;night 99;bake 7;evening 8;x",
            "#", "whim 100;"};
        for (int i = 0; i < faulty.length; i++) {
            due("town", Checks.town(x, faulty[i]), NONE);
            due("refused", x.status(1), i + 1);
            due("the tape goes", tapeAfterwards(x), 20);
            due("all stays", all(x).equals(before), true);
        }
        due("what was done can be undone", x.undo(), true);
    }

    @Sentence(at = "Promise 4", says = "Without one it is HOUR 0,")
    static void p04_hour0() {
        MoodBread x = townOf(TOWN);
        x.go(100);
        x.calm(0, 0, 7);
        x.knead(0, 4);
        due("town", Checks.town(x, TOWN), 13);
        due("HOUR", x.has(5), 0);
        due("all is as at first", all(x).equals(all(townOf(TOWN))), true);
    }

    @Sentence(at = "Promise 4", says = "nothing is SEEN or can be undone;")
    static void p04_nothingSeenOrUndone() {
        MoodBread x = townOf(TOWN);
        x.go(1);
        x.go(1);
        Checks.see(x, 0, 0, 0, 1);
        Checks.town(x, TOWN);
        due("rows SEEN", x.has(7), 0);
        due("all sets", x.kneaders(0, 0), 7);
        due("ACTS", x.has(8), 0);
        due("undo", x.undo(), false);
    }

    @Sentence(at = "Promise 4", says = "the seed stays.")
    static void p04_theSeedStays() {
        String town = "mood a;person p is 50;person q is 50;whim 9;";
        MoodBread x = townOf(TOWN);
        x.seed(77);
        Checks.town(x, town);
        MoodBread y = townOf(town);
        y.seed(77);
        x.days(5);
        y.days(5);
        due("as by the seed", Checks.image(x).equals(Checks.image(y)), true);
        MoodBread z = townOf(town);
        z.days(1);
        Checks.town(z, town);
        MoodBread w = townOf(town);
        w.seed((int) drawn(drawn(drawn(1))));
        z.days(5);
        w.days(5);
        due("as it has become", Checks.image(z).equals(Checks.image(w)), true);
    }

    @Sentence(at = "Promise 5", says = "Of the latest town() or ask():")
    static void p05_theLatest() {
        MoodBread x = new MoodBread();
        Checks.town(x, "whim 5; whim 100;");
        due("town", 100 * x.fault(0) + x.fault(1), 213);
        Checks.town(x, P);
        Checks.ask(x, 0, "first own = 1");
        due("ask", 100 * x.fault(0) + x.fault(1), 106);
        Checks.see(x, 9, 9, 9, 9);
        Checks.on(x, "x");
        x.go(0);
        due("not see, on, go", 100 * x.fault(0) + x.fault(1), 106);
        Checks.town(x, "mood a;mood a;");
        due("town", 100 * x.fault(0) + x.fault(1), 312);
    }

    @Sentence(at = "Promise 5", says = "its FAULT (what 0; 0 without, and ahead of any),")
    static void p05_fault() {
        MoodBread x = new MoodBread();
        due("ahead of any", x.fault(0), 0);
        String[] texts = {"#", "whim 100;", "mood a;mood a;", "turn (((((((1)))))));", "turn 1;turn 1;"};
        for (int i = 0; i < texts.length; i++) {
            Checks.town(x, texts[i]);
            due(texts[i], x.fault(0), i + 1);
            Checks.town(x, P);
            due("without", x.fault(0), 0);
        }
        Checks.ask(x, 0, "first");
        due("of ask", x.fault(0), 1);
        Checks.ask(x, 0, "first all");
        due("without", x.fault(0), 0);
    }

    @Sentence(at = "Promise 5", says = "its place (1; NONE without).")
    static void p05_place() {
        MoodBread x = new MoodBread();
        due("ahead of any", x.fault(1), NONE);
        Checks.town(x, "#");
        due("the first byte", x.fault(1), 0);
        Checks.town(x, P);
        due("without", x.fault(1), NONE);
        Checks.ask(x, 0, "first");
        due("its length", x.fault(1), 5);
        Checks.ask(x, 0, "first all");
        due("without", x.fault(1), NONE);
        Checks.town(x, " ".repeat(1599) + "#");
        due("the last byte", x.fault(1), 1599);
        Checks.town(x, "mood" + " ".repeat(1596));
        due("the text's length", x.fault(1), 1600);
    }

    @Sentence(at = "Promise 5", says = "NONE for another what.")
    static void p05_anotherWhat() {
        MoodBread x = new MoodBread();
        Checks.town(x, "whim 100;");
        for (int what : outside(2)) {
            due("fault(" + what + ")", x.fault(what), NONE);
        }
    }

    // ---- what there is

    @Sentence(at = "Promise 6", says = "How many there are: 0 MOODS, 1 PEOPLE, 2 LOAVES, 3 MEALS, 4 DEEDS,")
    static void p06_howManyThereAre() {
        String[] texts = {"", TOWN, FULL};
        int[][] due = {{0, 0, 0, 0, 0}, {2, 3, 2, 3, 2}, {4, 8, 6, 16, 6}};
        for (int i = 0; i < texts.length; i++) {
            MoodBread x = townOf(texts[i]);
            for (int what = 0; what < 5; what++) {
                due("has(" + what + ") of " + texts[i], x.has(what), due[i][what]);
            }
        }
    }

    @Sentence(at = "Promise 6", says = "5 HOUR,")
    static void p06_hour() {
        MoodBread x = townOf(TOWN);
        due("at first", x.has(5), 0);
        toHour(x, 9999);
        due("at last", x.has(5), 9999);
    }

    @Sentence(at = "Promise 6", says = "6 DEEDS done now by all together,")
    static void p06_deedsDoneNow() {
        MoodBread x = townOf(TOWN);
        due("Ann sings", x.has(6), 1);
        x.go(7);
        due("Bob riots, too", x.has(6), 2);
        due("all there can be", townOf(FULL).has(6), 48);
        due("nobody", townOf("deed d when all;").has(6), 0);
    }

    @Sentence(at = "Promise 6", says = "7 rows SEEN,")
    static void p06_rowsSeen() {
        MoodBread x = townOf(P);
        due("none", x.has(7), 0);
        for (int rows = 1; rows <= 20; rows++) {
            Checks.see(x, new int[4 * rows]);
            due("rows", x.has(7), rows);
        }
    }

    @Sentence(at = "Promise 6", says = "8 ACTS that can be undone.")
    static void p06_actsThatCanBeUndone() {
        MoodBread x = townOf(P);
        for (int acts = 0; acts <= 25; acts++) {
            due("ACTS", x.has(8), Math.min(20, acts));
            x.go(1);
        }
        x.undo();
        due("undone", x.has(8), 19);
    }

    @Sentence(at = "Promise 6", says = "NONE for others.")
    static void p06_others() {
        MoodBread x = townOf(FULL);
        for (int what : outside(9)) {
            nones(x, () -> x.has(what));
        }
    }

    @Sentence(at = "Promise 7", says = "Letter k (0 .. 5) of the NAME")
    static void p07_letter0To5() {
        MoodBread x = townOf("mood abcxyz;");
        int[] letters = {1, 2, 3, 24, 25, 26};
        for (int k = 0; k < 6; k++) {
            due("letter " + k, x.letter(0, 0, k), letters[k]);
        }
        for (int k : outside(6)) {
            nones(x, () -> x.letter(0, 0, k));
        }
    }

    @Sentence(at = "Promise 7", says = "of a MOOD (kind 0), one of the PEOPLE (1), a LOAF (2), a DEED (3): 1 .. 26;")
    static void p07_kinds() {
        MoodBread x = townOf("mood a;mood z;person b is 1 2;person y is 1 2;loaf c leaven 0 by b;loaf x leaven 0 by b;deed d when all;deed w when all;");
        for (int kind = 0; kind < 4; kind++) {
            due("the first of kind " + kind, x.letter(kind, 0, 0), kind + 1);
            due("the second of kind " + kind, x.letter(kind, 1, 0), 26 - kind);
        }
        MoodBread full = townOf(FULL);
        int[] last = {4, 8, 6, 6};
        for (int kind = 0; kind < 4; kind++) {
            due("the last of kind " + kind, full.letter(kind, last[kind] - 1, kind == 0 ? 0 : 1), last[kind]);
        }
    }

    @Sentence(at = "Promise 7", says = "0 behind it;")
    static void p07_behindIt() {
        MoodBread x = townOf("mood a;mood abcde;mood abcdef;");
        for (int k = 0; k < 6; k++) {
            due("a", x.letter(0, 0, k), k == 0 ? 1 : 0);
            due("abcde", x.letter(0, 1, k), k < 5 ? k + 1 : 0);
            due("abcdef", x.letter(0, 2, k), k + 1);
        }
    }

    @Sentence(at = "Promise 7", says = "NONE when there is none such.")
    static void p07_noneSuch() {
        for (String town : new String[] {TOWN, FULL, ""}) {
            MoodBread x = townOf(town);
            int[] counts = {x.has(0), x.has(1), x.has(2), x.has(4)};
            for (int kind = 0; kind < 4; kind++) {
                for (int which : outside(counts[kind])) {
                    due("kind " + kind + ", " + which, x.letter(kind, which, 0), NONE);
                }
            }
            for (int kind : outside(4)) {
                due("kind " + kind, x.letter(kind, 0, 0), NONE);
            }
        }
    }

    @Sentence(at = "Promise 8", says = "What one is by a MOOD (what 0), by nature (1).")
    static void p08_feels() {
        MoodBread x = townOf(FULL);
        x.calm(7, 3, 99);
        x.calm(7, 0, 0);
        due("what one is", x.feels(7, 3, 0), 11);
        due("by nature", x.feels(7, 3, 1), 99);
        due("what one is", x.feels(7, 0, 0), 1);
        due("by nature", x.feels(7, 0, 1), 0);
    }

    @Sentence(at = "Promise 8", says = "NONE when there are none such, or for others.")
    static void p08_noneSuch() {
        for (String town : new String[] {TOWN, FULL}) {
            MoodBread x = townOf(town);
            for (int person : outside(x.has(1))) {
                nones(x, () -> x.feels(person, 0, 0), () -> x.feels(person, 0, 1));
            }
            for (int mood : outside(x.has(0))) {
                nones(x, () -> x.feels(0, mood, 0), () -> x.feels(0, mood, 1));
            }
            for (int what : outside(2)) {
                nones(x, () -> x.feels(0, 0, what));
            }
        }
    }

    @Sentence(at = "Promise 9", says = "What a LOAF is by a MOOD;")
    static void p09_bread() {
        MoodBread x = townAt(TOWN, 5);
        due("rye, joy", x.bread(0, 0), 50);
        due("rye, ire", x.bread(0, 1), 35);
        due("bun, joy", x.bread(1, 0), 25);
        due("bun, ire", x.bread(1, 1), 0);
        due("the last one of FULL", townAt(FULL, 5).bread(5, 3), 9);
    }

    @Sentence(at = "Promise 9", says = "NONE when there are none such.")
    static void p09_noneSuch() {
        for (String town : new String[] {TOWN, FULL, "mood m;", FOUR}) {
            MoodBread x = townOf(town);
            for (int loaf : outside(x.has(2))) {
                nones(x, () -> x.bread(loaf, 0));
            }
            for (int mood : outside(x.has(0))) {
                nones(x, () -> x.bread(0, mood));
            }
        }
    }

    @Sentence(at = "Promise 10", says = "Of a LOAF: 0 leaven, 1 who knead it, as bits, 2 how many MEALS it is eaten at.")
    static void p10_loaf() {
        MoodBread x = townOf(FULL);
        due("the last one's leaven", x.loaf(5, 0), 0);
        due("who knead the last one", x.loaf(5, 1), 32);
        due("its MEALS", x.loaf(5, 2), 2);
        due("the first one's MEALS", x.loaf(0, 2), 3);
        MoodBread y = townOf(L + "eats p l at 1;".repeat(16));
        due("all MEALS", y.loaf(0, 2), 16);
        MoodBread z = townOf("mood m;person p is 5;person q is 6;person r is 7;loaf k leaven 100 by r p;loaf l leaven 1 by q;eats p l at 3;");
        int[][] due = {{100, 5, 0}, {1, 2, 1}};
        for (int loaf = 0; loaf < 2; loaf++) {
            for (int what = 0; what < 3; what++) {
                due("loaf(" + loaf + ", " + what + ")", z.loaf(loaf, what), due[loaf][what]);
            }
        }
        z.knead(0, 7);
        due("others knead it", z.loaf(0, 1), 7);
    }

    @Sentence(at = "Promise 10", says = "NONE when there is none such, or for others.")
    static void p10_noneSuch() {
        for (String town : new String[] {TOWN, FULL, ""}) {
            MoodBread x = townOf(town);
            for (int loaf : outside(x.has(2))) {
                nones(x, () -> x.loaf(loaf, 0), () -> x.loaf(loaf, 1), () -> x.loaf(loaf, 2));
            }
            for (int what : outside(3)) {
                nones(x, () -> x.loaf(0, what));
            }
        }
    }

    @Sentence(at = "Promise 11", says = "Whether one does a DEED now: 1, 0;")
    static void p11_does() {
        MoodBread x = townOf(TOWN);
        int[][] at0 = {{1, 0}, {0, 0}, {0, 0}};
        int[][] at7 = {{1, 0}, {0, 1}, {0, 0}};
        for (int person = 0; person < 3; person++) {
            for (int deed = 0; deed < 2; deed++) {
                due("at 0", x.does(person, deed), at0[person][deed]);
            }
        }
        x.go(7);
        for (int person = 0; person < 3; person++) {
            for (int deed = 0; deed < 2; deed++) {
                due("at 7", x.does(person, deed), at7[person][deed]);
            }
        }
        due("the last ones of FULL", townOf(FULL).does(7, 5), 1);
    }

    @Sentence(at = "Promise 11", says = "NONE when there are none such.")
    static void p11_noneSuch() {
        for (String town : new String[] {TOWN, FULL, P, "deed d when all;"}) {
            MoodBread x = townOf(town);
            for (int person : outside(x.has(1))) {
                nones(x, () -> x.does(person, 0));
            }
            for (int deed : outside(x.has(4))) {
                nones(x, () -> x.does(0, deed));
            }
        }
    }

    // ---- ahead

    @Sentence(at = "Promise 12", says = "What one is by a MOOD n HOURS AHEAD (0 .. 200);")
    static void p12_later() {
        MoodBread x = townOf("mood m;person p is 5;night own + 1;");
        String before = all(x);
        int[] hours = {0, 17, 18, 41, 42, 185, 186, 199, 200};
        int[] felt = {5, 5, 6, 6, 7, 12, 13, 13, 13};
        for (int i = 0; i < hours.length; i++) {
            due("n " + hours[i], x.later(0, 0, hours[i]), felt[i]);
        }
        due("n 201", x.later(0, 0, 201), NONE);
        due("n -1", x.later(0, 0, -1), NONE);
        due("all stays", all(x).equals(before), true);
    }

    @Sentence(at = "Promise 12", says = "NONE when there are none such.")
    static void p12_noneSuch() {
        MoodBread x = townOf(TOWN);
        for (int i : outside(3)) {
            nones(x, () -> x.later(i, 0, 5));
        }
        for (int i : outside(2)) {
            nones(x, () -> x.later(0, i, 5));
        }
        for (int n : outside(201)) {
            nones(x, () -> x.later(0, 0, n));
        }
        MoodBread late = townAt(P, 9990);
        due("9999", late.later(0, 0, 9), 5);
        due("10000", late.later(0, 0, 10), NONE);
    }

    @Sentence(at = "Promise 13", says = "The first DEED done AHEAD (by HOURS, PEOPLE, DEEDS):")
    static void p13_byHoursPeopleDeeds() {
        String town = "mood m;person p is 10;person q is 20;";
        first(town + "deed c when clock = 3;deed d when clock = 2 and feel 0 = 20;", 2, 1, 1);
        first(town + "deed c when clock = 2 and feel 0 = 20;deed d when clock = 2 and feel 0 = 10;", 2, 0, 1);
        first(town + "deed c when clock = 2;deed d when clock = 2;", 2, 0, 0);
        first(town + "deed c when not all;deed d when clock = 2;deed e when clock = 2;", 2, 0, 1);
        first(town + "deed c when all;", 0, 0, 0);
        first(FULL.replace("when all", "when day = 1 and nature 3 = 11"), 24, 7, 0);
    }

    private static void first(String town, int... due) {
        MoodBread x = townOf(town);
        for (int what = 0; what < 3; what++) {
            due("first(" + what + ") of " + town, x.first(what), due[what]);
        }
    }

    @Sentence(at = "Promise 13", says = "0 how many HOURS AHEAD, 1 who, 2 which.")
    static void p13_whatFirstTells() {
        MoodBread x = townAt("person p is;person q is;deed c when not all;deed d when clock = 7;", 5);
        due("how many HOURS AHEAD, not which", x.first(0), 2);
        due("who", x.first(1), 0);
        due("which", x.first(2), 1);
        x.go(2);
        due("now", x.first(0), 0);
        x.go(1);
        due("tomorrow", x.first(0), 23);
    }

    @Sentence(at = "Promise 13", says = "NONE when none is, or for others.")
    static void p13_noneIs() {
        MoodBread at200 = townOf("person p is;deed d when clock = 8 and day = 8;");
        due("200 AHEAD", at200.first(0), 200);
        MoodBread at201 = townOf("person p is;deed d when clock = 9 and day = 8;");
        nones(at201, () -> at201.first(0), () -> at201.first(1), () -> at201.first(2));
        due("201 AHEAD, an HOUR later", townAt("person p is;deed d when clock = 9 and day = 8;", 1).first(0), 200);
        for (int what : outside(3)) {
            nones(at200, () -> at200.first(what));
        }
        due("nobody", townOf("deed d when all;").first(0), NONE);
        due("no DEEDS", townOf(P).first(0), NONE);
        String last = "person p is;deed d when clock = 15 and day = 416;";
        due("HOUR 9999", townAt(last, 9990).first(0), 9);
        due("beyond HOUR 9999", townAt("person p is;deed d when clock = 16 and day = 416;", 9990).first(0), NONE);
    }

    @Sentence(at = "Promise 14", says = "In how many of n HOURS (1 .. 200) from now on")
    static void p14_often() {
        MoodBread x = townOf("person p is;deed d when all;deed e when clock = 0;deed f when day = 8 and clock = 7;");
        due("1", x.often(0, 0, 1), 1);
        due("200", x.often(0, 0, 200), 200);
        due("now alone", x.often(0, 1, 1), 1);
        due("24 HOURS have one 0", x.often(0, 1, 24), 1);
        due("25 HOURS have two", x.often(0, 1, 25), 2);
        due("199 AHEAD is the last of 200", x.often(0, 2, 200), 1);
        due("but none of 199", x.often(0, 2, 199), 0);
        for (int n : outside(201)) {
            nones(x, () -> x.often(0, 0, n));
        }
        nones(x, () -> x.often(0, 0, 0));
        x.go(1);
        due("from now on", x.often(0, 1, 23), 0);
        due("from now on", x.often(0, 1, 24), 1);
    }

    @Sentence(at = "Promise 14", says = "(as many as there are AHEAD) one does a DEED;")
    static void p14_asManyAsThereAre() {
        int[][] hours = {{9799, 200, 200}, {9800, 200, 200}, {9801, 200, 199}, {9801, 199, 199}, {9998, 200, 2}, {9998, 1, 1}, {9999, 200, 1}, {9999, 1, 1}};
        for (int[] h : hours) {
            due(h[1] + " from " + h[0], townAt("person p is;deed d when all;", h[0]).often(0, 0, h[1]), h[2]);
        }
    }

    @Sentence(at = "Promise 14", says = "NONE when there are none such.")
    static void p14_noneSuch() {
        MoodBread x = townOf(TOWN);
        for (int i : outside(3)) {
            nones(x, () -> x.often(i, 0, 5));
        }
        for (int i : outside(2)) {
            nones(x, () -> x.often(0, i, 5));
        }
    }

    @Sentence(at = "Promise 15", says = "AGAIN: k (what 0), how many DAYS it is since (1).")
    static void p15_again() {
        MoodBread x = townOf("mood m;person p is 40;loaf l leaven 0 by p;night 99 - own;turn now;");
        due("k", x.again(0), 3);
        due("DAYS since", x.again(1), 2);
        MoodBread y = townOf("mood m;person p is 92;night own + 1;");
        due("k", y.again(0), 8);
        due("DAYS since", y.again(1), 1);
    }

    @Sentence(at = "Promise 15", says = "NONE when nothing comes again, or for others.")
    static void p15_nothingAgain() {
        MoodBread x = townOf("mood m;person p is 40;night own + 1;");
        nones(x, () -> x.again(0), () -> x.again(1));
        MoodBread y = townOf(P);
        for (int what : outside(2)) {
            nones(y, () -> y.again(what));
        }
        due("no day AHEAD", townAt(P, 9976).again(0), NONE);
        due("a day AHEAD", townAt(P, 9975).again(0), 1);
    }

    // ---- hands, blends, leaven, votes

    @Sentence(at = "Promise 16", says = "HANDS for a LOAF, one, a MOOD, n HOURS AHEAD (0 .. 200),")
    static void p16_hands0To200() {
        MoodBread x = townOf(TOWN);
        due("0", x.hands(0, 2, 1, 0, 30, 0), 1);
        due("0, what he is", x.hands(0, 2, 1, 0, 30, 1), 0);
        due("200 is HOUR 8 of day 8", x.hands(0, 2, 1, 200, 30, 0), 2);
        due("200, what he is", x.hands(0, 2, 1, 200, 30, 1), 30);
        for (int n : outside(201)) {
            nones(x, () -> x.hands(0, 2, 1, n, 30, 0));
        }
        MoodBread late = townAt(TOWN, 9990);
        due("to 9999", late.hands(0, 2, 1, 9, 30, 0), 1);
        due("beyond 9999", late.hands(0, 2, 1, 10, 30, 0), NONE);
    }

    @Sentence(at = "Promise 16", says = "a number (0 .. 99):")
    static void p16_number0To99() {
        MoodBread x = townOf(TOWN);
        due("0", x.hands(0, 2, 1, 7, 0, 0), 4);
        due("99", x.hands(0, 2, 1, 7, 99, 0), 2);
        for (int number : outside(100)) {
            nones(x, () -> x.hands(0, 2, 1, 7, number, 0));
        }
    }

    @Sentence(at = "Promise 16", says = "who, as bits (what 0), what he is then (1).")
    static void p16_what() {
        MoodBread x = townOf(TOWN);
        String before = all(x);
        due("who", x.hands(0, 2, 1, 7, 16, 0), 3);
        due("what he is then", x.hands(0, 2, 1, 7, 16, 1), 17);
        due("who, of bun", x.hands(1, 0, 0, 8, 60, 0), 1);
        due("what she is then", x.hands(1, 0, 0, 8, 61, 1), 60);
        due("all stays", all(x).equals(before), true);
    }

    @Sentence(at = "Promise 16", says = "NONE when there are none such, something can't be, or for others.")
    static void p16_noneSuch() {
        MoodBread x = townOf(TOWN);
        for (int i : outside(2)) {
            nones(x, () -> x.hands(i, 0, 0, 5, 5, 0), () -> x.hands(0, 0, i, 5, 5, 0), () -> x.hands(0, 0, 0, 5, 5, i));
        }
        for (int i : outside(3)) {
            nones(x, () -> x.hands(0, i, 0, 5, 5, 0));
        }
        MoodBread none = townOf("mood m;person p is 5;");
        due("no LOAF", none.hands(0, 0, 0, 5, 5, 0), NONE);
    }

    @Sentence(at = "Promise 17", says = "A BLEND: 10 times a and b (what 0), whether it is just the number (1: 1, 0).")
    static void p17_blend() {
        MoodBread x = townAt("mood m;mood n;person p is 0 20;person q is 90 50;loaf k leaven 0 by p;loaf l leaven 0 by q;", 5);
        due("m, 45", x.blend(0, 1, 0, 45, 0), 11);
        due("just", x.blend(0, 1, 0, 45, 1), 1);
        due("m, 0", x.blend(0, 1, 0, 0, 0), 91);
        due("not just", x.blend(0, 1, 0, 0, 1), 0);
        due("n, 30", x.blend(0, 1, 1, 30, 0), 21);
        due("just", x.blend(0, 1, 1, 30, 1), 1);
        due("the other way", x.blend(1, 0, 1, 30, 0), 12);
    }

    @Sentence(at = "Promise 17", says = "NONE when there are none such,")
    static void p17_noneSuch() {
        MoodBread x = townOf(TOWN);
        for (int i : outside(2)) {
            nones(x, () -> x.blend(i, 0, 0, 5, 0), () -> x.blend(0, i, 0, 5, 0), () -> x.blend(0, 1, i, 5, 0));
        }
        MoodBread one = townOf(L);
        due("one LOAF", one.blend(0, 1, 0, 5, 0), NONE);
    }

    @Sentence(at = "Promise 17", says = "they are one,")
    static void p17_theyAreOne() {
        MoodBread x = townOf(TOWN);
        nones(x, () -> x.blend(0, 0, 0, 5, 0), () -> x.blend(1, 1, 0, 5, 0), () -> x.blend(1, 1, 0, 5, 1));
        due("two", x.blend(1, 0, 0, 0, 0), 11);
    }

    @Sentence(at = "Promise 17", says = "the number is not 0 .. 99, or for others.")
    static void p17_number0To99() {
        MoodBread x = townOf(TOWN);
        due("0", x.blend(0, 1, 0, 0, 0), 11);
        due("99", x.blend(0, 1, 0, 99, 0), 11);
        for (int number : outside(100)) {
            nones(x, () -> x.blend(0, 1, 0, number, 0));
        }
        for (int what : outside(2)) {
            nones(x, () -> x.blend(0, 1, 0, 5, what));
        }
    }

    @Sentence(at = "Promise 18", says = "LEFT of one in a LOAF behind n bakings (0 .. 6),")
    static void p18_0To6() {
        MoodBread x = townOf("person p is;loaf l leaven 80 by p;");
        int[] due = {0, 200, 360, 488, 590, 672, 737};
        for (int n = 0; n <= 6; n++) {
            due("n " + n, x.left(0, 0, n), due[n]);
        }
        for (int n : outside(7)) {
            nones(x, () -> x.left(0, 0, n));
        }
    }

    @Sentence(at = "Promise 18", says = "in thousandths (floor);")
    static void p18_floor() {
        MoodBread x = townOf("person p is;person q is;person r is;loaf a leaven 0 by p q r;loaf b leaven 99 by p q r;loaf c leaven 1 by p;loaf d leaven 10 by p q;");
        due("333.3", x.left(0, 0, 1), 333);
        due("3.3", x.left(1, 0, 1), 3);
        due("6.6", x.left(1, 0, 2), 6);
        due("19.5", x.left(1, 0, 6), 19);
        due("990", x.left(2, 0, 1), 990);
        due("999.9", x.left(2, 0, 2), 999);
        due("999.999999999", x.left(2, 0, 6), 999);
        due("499.9995", x.left(3, 1, 6), 499);
        due("450", x.left(3, 1, 1), 450);
    }

    @Sentence(at = "Promise 18", says = "NONE when there are none such, or n can't be.")
    static void p18_noneSuch() {
        MoodBread x = townOf(TOWN);
        for (int i : outside(2)) {
            nones(x, () -> x.left(i, 0, 1));
        }
        for (int i : outside(3)) {
            nones(x, () -> x.left(0, i, 1), () -> x.left(0, i, 0));
        }
        nones(x, () -> x.left(0, 0, -1), () -> x.left(0, 2, 7));
    }

    @Sentence(at = "Promise 19", says = "VOTES for the first LOAF (what 0), for the second one (1), who vote for neither, as bits (2).")
    static void p19_votes() {
        MoodBread x = townOf(TOWN);
        due("all LOAVES are 0", x.votes(0, 1, 0), 0);
        due("all LOAVES are 0", x.votes(0, 1, 1), 0);
        due("all LOAVES are 0", x.votes(0, 1, 2), 7);
        x.go(5);
        // rye is 50 35, bun 25 0: Ann 55 against 65, Bob 55 against 65, Cid 35 against 25
        due("rye", x.votes(0, 1, 0), 2);
        due("bun", x.votes(0, 1, 1), 1);
        due("neither", x.votes(0, 1, 2), 0);
        due("bun first", x.votes(1, 0, 0), 1);
        due("all of FULL", townOf(FULL).votes(5, 0, 2), 255);
    }

    @Sentence(at = "Promise 19", says = "NONE when there are none such, they are one, or for others.")
    static void p19_noneSuch() {
        MoodBread x = townOf(TOWN);
        for (int i : outside(2)) {
            nones(x, () -> x.votes(i, 0, 0), () -> x.votes(0, i, 0), () -> x.votes(i, i, 0));
        }
        for (int i : outside(3)) {
            nones(x, () -> x.votes(0, 1, i));
        }
        nones(x, () -> x.votes(0, 0, 0), () -> x.votes(1, 1, 2));
    }

    // ---- acts

    @Sentence(at = "Promise 20", says = "n HOURS come (1 .. 500): the HOUR then;")
    static void p20_go1To500() {
        MoodBread x = townOf(TOWN);
        due("1", x.go(1), 1);
        due("500", x.go(500), 501);
        due("ACTS", x.has(8), 2);
        refusedActs(x, () -> x.go(0), () -> x.go(-1), () -> x.go(501), () -> x.go(Integer.MAX_VALUE), () -> x.go(Integer.MIN_VALUE));
    }

    @Sentence(at = "Promise 20", says = "NONE, refused (2), when it can't be.")
    static void p20_refusedBeyond9999() {
        MoodBread x = townAt(TOWN, 9600);
        refusedActs(x, () -> x.go(400), () -> x.go(500));
        due("399", x.go(399), 9999);
        due("1", x.go(1), NONE);
        due("it stays", x.has(5), 9999);
    }

    @Sentence(at = "Promise 21", says = "Others (bits, 1 to 3 PEOPLE) knead a LOAF: who did;")
    static void p21_1To3Knead() {
        MoodBread x = townOf(FOUR);
        int who = 1;
        for (int others = 1; others < 15; others++) {
            due("others " + others, x.knead(0, others), who);
            who = others;
            due("they do", x.loaf(0, 1), others);
        }
        due("ACTS", x.has(8), 14);
        due("four", x.knead(0, 15), NONE);
        due("nobody", x.knead(0, 0), NONE);
        MoodBread full = townOf(FULL);
        due("the last ones of FULL", full.knead(5, 0xe0), 32);
        due("they do", full.loaf(5, 1), 0xe0);
        due("the others stay", full.loaf(4, 1), 16);
    }

    @Sentence(at = "Promise 21", says = "NONE, refused (2), when something can't be.")
    static void p21_refused() {
        MoodBread x = townOf(TOWN);
        refusedActs(x, () -> x.knead(0, 0), () -> x.knead(0, 8), () -> x.knead(0, 9), () -> x.knead(0, -1), () -> x.knead(0, Integer.MIN_VALUE),
            () -> x.knead(0, Integer.MIN_VALUE + 1), () -> x.knead(0, Integer.MAX_VALUE), () -> x.knead(0, 256), () -> x.knead(2, 1),
            () -> x.knead(-1, 1), () -> x.knead(Integer.MAX_VALUE, 1), () -> x.knead(Integer.MIN_VALUE, 1));
        MoodBread full = townOf(FULL);
        due("nine there are not", full.knead(0, 256), NONE);
        due("seven there are not", full.knead(6, 1), NONE);
        due("four are too many", full.knead(0, 0xf0), NONE);
        due("refused", full.status(2), 3);
    }

    @Sentence(at = "Promise 22", says = "One's nature by a MOOD is n (0 .. 99): what it was;")
    static void p22_nature0To99() {
        MoodBread x = townOf(TOWN);
        due("0", x.calm(1, 1, 0), 60);
        due("by nature", x.feels(1, 1, 1), 0);
        due("99", x.calm(1, 1, 99), 0);
        due("by nature", x.feels(1, 1, 1), 99);
        due("50", x.calm(1, 1, 50), 99);
        due("what one is stays", x.feels(1, 1, 0), 60);
        due("ACTS", x.has(8), 3);
        due("others stay", x.feels(1, 0, 1), 20);
        due("others stay", x.feels(2, 1, 1), 0);
    }

    @Sentence(at = "Promise 22", says = "NONE, refused (2), when something can't be.")
    static void p22_refused() {
        MoodBread x = townOf(TOWN);
        refusedActs(x, () -> x.calm(0, 0, 100), () -> x.calm(0, 0, -1), () -> x.calm(0, 0, Integer.MAX_VALUE), () -> x.calm(0, 0, Integer.MIN_VALUE),
            () -> x.calm(3, 0, 5), () -> x.calm(-1, 0, 5), () -> x.calm(0, 2, 5), () -> x.calm(0, -1, 5), () -> x.calm(0, Integer.MAX_VALUE, 5),
            () -> x.calm(Integer.MIN_VALUE, 0, 5));
    }

    @Sentence(at = "Promise 23", says = "n DAYS (1 .. 20) by the seed: the HOUR then;")
    static void p23_1To20Days() {
        MoodBread x = townOf(TOWN + "whim 5;");
        due("1", x.days(1), 24);
        due("20", x.days(20), 504);
        due("two ACTS", x.has(8), 2);
        refusedActs(x, () -> x.days(0), () -> x.days(-1), () -> x.days(21), () -> x.days(Integer.MAX_VALUE), () -> x.days(Integer.MIN_VALUE),
            () -> x.days(178956971));
        MoodBread y = townOf(TOWN + "whim 5;");
        for (int i = 0; i < 21; i++) {
            y.days(1);
        }
        due("as day by day", Checks.image(y).equals(Checks.image(x)), true);
    }

    @Sentence(at = "Promise 23", says = "NONE, refused (2), when it can't be.")
    static void p23_refusedBeyond9999() {
        MoodBread x = townAt(TOWN + "whim 5;", 9520);
        refusedActs(x, () -> x.days(20));
        due("19 days", x.days(19), 9976);
        due("a day more", x.days(1), NONE);
        MoodBread y = townAt(TOWN + "whim 5;", 9519);
        due("20 days to 9999", y.days(20), 9999);
        MoodBread z = townAt(TOWN + "whim 5;", 9976);
        z.days(1);
        Checks.town(z, TOWN + "whim 5;");
        z.days(5);
        MoodBread fresh = townOf(TOWN + "whim 5;");
        fresh.days(5);
        due("no DRAWS when refused", Checks.image(z).equals(Checks.image(fresh)), true);
    }

    @Sentence(at = "Promise 24", says = "The latest ACT is undone (the seed stays): true;")
    static void p24_undo() {
        MoodBread x = townOf(TOWN + "whim 5;night (own + now) / 2;");
        String[] images = new String[4];
        images[0] = Checks.image(x);
        x.go(30);
        images[1] = Checks.image(x);
        x.knead(0, 4);
        images[2] = Checks.image(x);
        x.calm(2, 1, 66);
        images[3] = Checks.image(x);
        x.days(3);
        Checks.see(x, 0, 0, 0, 1);
        for (int i = 3; i >= 0; i--) {
            due("undo", x.undo(), true);
            due("ACTS", x.has(8), i);
            due("as it was", Checks.image(x).equals(images[i]), true);
        }
        due("what is SEEN is no ACT", x.has(7), 1);
        x.days(5);
        MoodBread y = townOf(TOWN + "whim 5;night (own + now) / 2;");
        long seed = 1;
        for (int i = 0; i < 9; i++) {
            seed = drawn(seed);
        }
        y.seed((int) seed);
        y.days(5);
        due("the seed stays as it has become", Checks.image(x).equals(Checks.image(y)), true);
    }

    @Sentence(at = "Promise 24", says = "false, refused (3), when none can be.")
    static void p24_noneCanBe() {
        MoodBread x = townOf(P);
        due("none yet", x.undo(), false);
        x.go(1);
        due("one", x.undo(), true);
        due("no more", x.undo(), false);
        for (int i = 0; i < 30; i++) {
            x.go(1);
        }
        for (int i = 0; i < 20; i++) {
            due("one", x.undo(), true);
        }
        due("no more", x.undo(), false);
        due("HOUR", x.has(5), 10);
        due("refused", x.status(3), 3);
    }

    @Sentence(at = "Promise 25", says = "The seed: true; false, refused (4), when it is below 0.")
    static void p25_seed() {
        MoodBread x = townOf("mood m;person p is 50;whim 7;");
        x.seed(77);
        due("-1", x.seed(-1), false);
        due("the least", x.seed(Integer.MIN_VALUE), false);
        due("refused", x.status(4), 2);
        MoodBread y = townOf("mood m;person p is 50;whim 7;");
        y.seed(77);
        x.days(6);
        y.days(6);
        due("it stays", x.feels(0, 0, 1), y.feels(0, 0, 1));
        for (int seed : new int[] {0, 1, 5, Integer.MAX_VALUE}) {
            due("seed " + seed, x.seed(seed), true);
            x.calm(0, 0, 50);
            x.days(1);
            due("by seed " + seed, x.feels(0, 0, 1), 43 + 7 * (drawn(drawn(drawn(seed))) / 64 % 3));
        }
        due("refused", x.status(4), 2);
    }

    @Sentence(at = "Promise 25", says = "(It is 1 at first.)")
    static void p25_1AtFirst() {
        MoodBread x = townOf(FULL);
        MoodBread y = townOf(FULL);
        y.seed(1);
        x.days(12);
        y.days(12);
        due("as by 1", Checks.image(x).equals(Checks.image(y)), true);
    }

    // ---- who kneaded, where to look

    @Sentence(at = "Promise 26", says = "The tape (it goes) is what is SEEN:")
    static void p26_theTapeGoes() {
        MoodBread x = townOf(TOWN);
        Checks.see(x, 2, 1, 7, 30, 2, 1, 8, 30);
        due("the tape goes", tapeAfterwards(x), 20);
        due("rows", x.has(7), 2);
        Checks.see(x, 2, 1, 7, 5);
        due("they come in place of those ahead", x.has(7), 1);
        due("Ann", x.kneaders(0, 3), 1);
        toHour(x, 9990);
        Checks.see(x, 0, 0, 0, 80, 0, 0, 200, 80);
        due("200 AHEAD", x.kneaders(0, 0), 0);
        Checks.see(x, 0, 0, 0, x.feels(0, 0, 0));
        due("none of those ahead is left", x.kneaders(0, 0), 7);
        Checks.see(x, 9, 9, 9, 9);
        due("the tape goes", tapeAfterwards(x), 20);
    }

    @Sentence(at = "Promise 26", says = "1 to 20 rows of four bytes,")
    static void p26_1To20Rows() {
        MoodBread x = townOf(TOWN);
        due("none", Checks.see(x), NONE);
        due("1", Checks.see(x, new int[4]), 1);
        int[] rows = new int[80];
        for (int i = 0; i < 80; i += 4) {
            rows[i] = 2;
            rows[i + 1] = 1;
            rows[i + 2] = i < 76 ? 0 : 7;
            rows[i + 3] = i < 76 ? 0 : 30;
        }
        due("20", Checks.see(x, rows), 20);
        due("the twentieth", x.kneaders(0, 0), 1);
        rows[79] = 31;
        Checks.see(x, rows);
        due("the twentieth", x.kneaders(0, 0), 0);
        due("21", Checks.see(x, new int[84]), NONE);
        for (int length : new int[] {1, 2, 3, 5, 6, 7, 79, 81}) {
            due(length + " bytes", Checks.see(x, new int[length]), NONE);
        }
        Checks.tape(x, "\0".repeat(1600));
        due("1600 bytes", x.see(), NONE);
        due("20 stay", x.has(7), 20);
    }

    @Sentence(at = "Promise 26", says = "PERSON, MOOD,")
    static void p26_personMood() {
        MoodBread x = townOf(TOWN);
        due("the last ones", Checks.see(x, 2, 1, 0, 0), 1);
        due("person 3", Checks.see(x, 3, 1, 0, 0), NONE);
        due("mood 2", Checks.see(x, 2, 2, 0, 0), NONE);
        due("person 255", Checks.see(x, 255, 1, 0, 0), NONE);
        due("mood 255", Checks.see(x, 2, 255, 0, 0), NONE);
        due("in the second row", Checks.see(x, 2, 1, 0, 0, 3, 1, 0, 0), NONE);
        due("nobody", Checks.see(townOf("mood m;"), 0, 0, 0, 0), NONE);
        due("no MOOD", Checks.see(townOf(FOUR), 0, 0, 0, 0), NONE);
    }

    @Sentence(at = "Promise 26", says = "HOURS AHEAD (0 .. 200, whatever the HOUR is;")
    static void p26_0To200Hours() {
        for (int hour : new int[] {0, 9799, 9800, 9999}) {
            MoodBread x = townAt(P, hour);
            due("0", Checks.see(x, 0, 0, 0, 5), 1);
            due("200", Checks.see(x, 0, 0, 200, 5), 1);
            due("201", Checks.see(x, 0, 0, 201, 5), NONE);
            due("255", Checks.see(x, 0, 0, 255, 5), NONE);
            due("255 in the second row", Checks.see(x, 0, 0, 0, 5, 0, 0, 255, 5), NONE);
        }
    }

    @Sentence(at = "Promise 26", says = "with one beyond HOUR 9999 there are no KNEADERS),")
    static void p26_beyond9999() {
        int[][] rows = {{9799, 200, 1}, {9800, 200, 0}, {9800, 199, 1}, {9999, 0, 1}, {9999, 1, 0}, {9990, 9, 1}, {9990, 10, 0}};
        for (int[] r : rows) {
            MoodBread x = townAt(L, r[0]);
            Checks.see(x, 0, 0, 0, 5, 0, 0, r[1], 5);
            due(r[1] + " AHEAD of " + r[0], x.kneaders(0, 0), r[2]);
            due("the first one", x.kneaders(0, 3), r[2] == 1 ? 1 : NONE);
            due("look", x.look(0, 0, 2), r[2] == 1 ? 1 : NONE);
        }
        MoodBread x = townAt(L, 9990);
        Checks.see(x, 0, 0, 9, 5);
        due("to 9999", x.kneaders(0, 0), 1);
        x.go(1);
        due("as HOURS come, beyond it", x.kneaders(0, 0), 0);
    }

    @Sentence(at = "Promise 26", says = "what he is (0 .. 99):")
    static void p26_0To99() {
        MoodBread x = townOf(TOWN);
        due("0", Checks.see(x, 0, 0, 0, 0), 1);
        due("99", Checks.see(x, 0, 0, 0, 99), 1);
        due("100", Checks.see(x, 0, 0, 0, 100), NONE);
        due("255", Checks.see(x, 0, 0, 0, 255), NONE);
        due("100 in the last row", Checks.see(x, 0, 0, 0, 99, 0, 0, 0, 99, 0, 0, 0, 100), NONE);
    }

    @Sentence(at = "Promise 26", says = "how many rows; NONE, refused (1), all staying, when it is none such.")
    static void p26_refused() {
        MoodBread x = townOf(TOWN);
        x.go(3);
        Checks.see(x, 2, 1, 4, 30, 2, 1, 0, 0);
        String before = all(x);
        int[][] wrong = {{}, {2}, {2, 1, 4, 30, 2}, {3, 1, 4, 30}, {2, 2, 4, 30}, {2, 1, 201, 30}, {2, 1, 4, 100}, {2, 1, 4, 31, 2, 2, 4, 31}};
        for (int i = 0; i < wrong.length; i++) {
            due("wrong " + i, Checks.see(x, wrong[i]), NONE);
            due("refused", x.status(1), i + 1);
        }
        due("all stays", all(x).equals(before), true);
        due("Bob", x.kneaders(0, 3), 2);
        due("no fault is told", x.fault(0), 0);
    }

    /** The answers of kneaders(loaf, 0 .. 3). */
    private static void kneaders(MoodBread x, int loaf, int... due) {
        for (int what = 0; what < due.length; what++) {
            due("kneaders(" + loaf + ", " + what + ")", x.kneaders(loaf, what), due[what]);
        }
    }

    @Sentence(at = "Promise 27", says = "KNEADERS of a LOAF by what is SEEN (all sets, if nothing is):")
    static void p27_allSetsIfNothingIsSeen() {
        MoodBread x = townOf(TOWN);
        kneaders(x, 0, 7, 0, 7, 1);
        kneaders(x, 1, 7, 0, 7, 1);
        kneaders(townOf(FULL), 5, 92, 0, 255, 1);
        kneaders(townOf(L), 0, 1, 1, 1, 1);
        kneaders(townAt(TOWN, 9999), 0, 7, 0, 7, 1);
        Checks.see(x, 2, 1, 7, 30);
        kneaders(x, 0, 1, 2, 2, 2);
    }

    @Sentence(at = "Promise 27", says = "how many sets (what 0),")
    static void p27_howMany() {
        MoodBread x = townOf(TOWN);
        Checks.see(x, 2, 0, 7, 50);
        // joy of 50 comes of rye of 50 or 51: Ann and Bob, Cid, all three; not Ann and Cid, Bob and Cid
        kneaders(x, 0, 3);
        Checks.see(x, 2, 0, 7, 99);
        kneaders(x, 0, 0);
    }

    @Sentence(at = "Promise 27", says = "those in all of them, as bits (1; 0 without),")
    static void p27_inAll() {
        MoodBread x = townOf(TOWN);
        // by bun Ann's joy at 8 is 60 of her alone, 52 of her with Bob and of Cid and of all three
        Checks.see(x, 0, 0, 8, 60);
        due("one set", x.kneaders(1, 1), 1);
        Checks.see(x, 0, 0, 8, 52);
        due("none is in all", x.kneaders(1, 1), 0);
        Checks.see(x, 0, 0, 8, 99);
        due("without KNEADERS", x.kneaders(1, 1), 0);
        MoodBread y = townOf("mood m;person a is 10;person b is 20;person c is 20;loaf l leaven 0 by a;eats a l at 6;");
        Checks.see(y, 0, 0, 6, 15);
        kneaders(y, 0, 2, 1, 7, 3);
    }

    @Sentence(at = "Promise 27", says = "in some (2),")
    static void p27_inSome() {
        MoodBread y = townOf("mood m;person a is 10;person b is 20;person c is 20;loaf l leaven 0 by a;eats a l at 6;");
        Checks.see(y, 0, 0, 6, 20);
        due("b, c, b and c", y.kneaders(0, 2), 6);
        Checks.see(y, 0, 0, 6, 21);
        due("without KNEADERS", y.kneaders(0, 2), 0);
    }

    @Sentence(at = "Promise 27", says = "the first one by bits (3; NONE without).")
    static void p27_theFirstByBits() {
        MoodBread y = townOf("mood m;person a is 10;person b is 20;person c is 20;person d is 50;loaf l leaven 0 by a;eats a l at 6;");
        Checks.see(y, 0, 0, 6, 20);
        due("b", y.kneaders(0, 3), 2);
        Checks.see(y, 0, 0, 6, 30);
        // a and d 30; b, c and d 30
        due("a and d", y.kneaders(0, 3), 9);
        due("they are two", y.kneaders(0, 0), 2);
        Checks.see(y, 0, 0, 6, 21);
        due("without KNEADERS", y.kneaders(0, 3), NONE);
    }

    @Sentence(at = "Promise 27", says = "NONE when there is none such, or for others.")
    static void p27_noneSuch() {
        MoodBread x = townOf(TOWN);
        for (int i : outside(2)) {
            nones(x, () -> x.kneaders(i, 0), () -> x.kneaders(i, 3));
        }
        for (int i : outside(4)) {
            nones(x, () -> x.kneaders(0, i));
        }
    }

    @Sentence(at = "Promise 28", says = "LOOK, n HOURS AHEAD (0 .. 200), for the KNEADERS of a LOAF:")
    static void p28_0To200() {
        MoodBread x = townOf(TOWN);
        due("0", x.look(0, 0, 2), 7);
        due("200", x.look(0, 200, 2), 1);
        for (int n : outside(201)) {
            nones(x, () -> x.look(0, n, 2));
        }
        due("of another LOAF", x.look(1, 7, 2), 7);
        MoodBread late = townAt(TOWN, 9990);
        due("to 9999, none of the two being baked", late.look(0, 9, 2), 7);
        due("beyond 9999", late.look(0, 10, 2), NONE);
    }

    @Sentence(at = "Promise 28", says = "who (what 0), the MOOD (1), how many leave him alike at the most (2).")
    static void p28_what() {
        MoodBread x = townOf(TOWN);
        String before = all(x);
        int[] due = {2, 1, 1};
        for (int what = 0; what < 3; what++) {
            due("look(0, 7, " + what + ")", x.look(0, 7, what), due[what]);
        }
        due("all stays", all(x).equals(before), true);
        MoodBread full = townOf(FULL);
        due("the most there can be", full.look(0, 0, 2), 92);
    }

    @Sentence(at = "Promise 28", says = "NONE without KNEADERS,")
    static void p28_withoutKneaders() {
        MoodBread x = townOf(TOWN);
        Checks.see(x, 0, 0, 0, 79);
        nones(x, () -> x.look(0, 7, 0), () -> x.look(0, 7, 1), () -> x.look(0, 7, 2), () -> x.look(0, 0, 2));
        Checks.see(x, 2, 1, 7, 30);
        due("of rye, one set", x.look(0, 7, 2), 1);
        due("of bun, none", x.look(1, 7, 2), NONE);
    }

    @Sentence(at = "Promise 28", says = "when there is none such, or for others.")
    static void p28_noneSuch() {
        MoodBread x = townOf(TOWN);
        for (int i : outside(2)) {
            nones(x, () -> x.look(i, 5, 0));
        }
        for (int i : outside(3)) {
            nones(x, () -> x.look(0, 5, i));
        }
        nones(x, () -> x.look(0, -1, 0), () -> x.look(0, 201, 0));
        due("no MOOD", townOf(FOUR).look(0, 5, 0), NONE);
    }

    // ---- questions

    @Sentence(at = "Promise 29", says = "The tape (it goes) is a QUESTION of one: its answer;")
    static void p29_answer() {
        MoodBread x = townOf(TOWN);
        String before = all(x);
        due("of Ann", Checks.ask(x, 0, "most feel 0"), 80);
        due("the tape goes", tapeAfterwards(x), 20);
        due("of Cid", Checks.ask(x, 2, "most feel 0"), 50);
        due("with a FAULT", Checks.ask(x, 2, "most feel"), NOTHING);
        due("the tape goes", tapeAfterwards(x), 20);
        due("all stays", all(x).equals(before), true);
        due("0 is an answer", Checks.ask(x, 0, "first all"), 0);
        for (int i = 0; i < 3; i++) {
            due("as long as can be", Checks.ask(x, 0, "most 7" + "+1".repeat(797)), 804);
        }
    }

    @Sentence(at = "Promise 29", says = "NONE of first, last, when its TEST holds in none;")
    static void p29_noneHolds() {
        MoodBread x = townOf(TOWN);
        asked(x, "first not all", NONE);
        asked(x, "last not all", NONE);
        asked(x, "often not all", 0);
        asked(x, "first hour > 72", NONE);
        asked(x, "last hour > 72", NONE);
        asked(x, "first hour > 71", 72);
        due("it is no FAULT", x.fault(0), 0);
    }

    @Sentence(at = "Promise 29", says = "NOTHING with a FAULT,")
    static void p29_nothingWithAFault() {
        MoodBread x = townOf(TOWN);
        for (String text : new String[] {"", "first", "first al", "most 1;", "total (((((((1)))))))"}) {
            asked(x, text, NOTHING);
            due("fault", x.fault(0), text.length() < 15 ? 1 : 4);
        }
        due("it is not counted as refused", x.status(1), 0);
    }

    @Sentence(at = "Promise 29", says = "or (the tape goes, nothing else is done, fault() stays) when there is none such.")
    static void p29_noneSuch() {
        MoodBread x = townOf(TOWN);
        Checks.ask(x, 0, "first al");
        for (int person : outside(3)) {
            due("person " + person, Checks.ask(x, person, "first all"), NOTHING);
            due("the tape goes", tapeAfterwards(x), 20);
            due("fault stays", x.fault(0), 1);
            due("its place stays", x.fault(1), 6);
        }
        Checks.ask(x, 0, "first all");
        due("with a FAULT", Checks.ask(x, 3, "#"), NOTHING);
        due("fault stays", x.fault(0), 0);
        due("its place stays", x.fault(1), NONE);
    }

    // ---- images, refusals

    @Sentence(at = "Promise 30", says = "AN IMAGE is written: how many bytes.")
    static void p30_howManyBytes() {
        due("of nobody", new MoodBread().image(), 3);
        due("MOODS alone", townOf("mood a;mood b;").image(), 3);
        due("one", townOf(P).image(), 5);
        due("a LOAF", townOf(L).image(), 7);
        due("without MOODS", townOf(FOUR).image(), 4);
        due("TOWN", townOf(TOWN).image(), 21);
        due("FULL", townOf(FULL).image(), 97);
    }

    @Sentence(at = "Promise 31", says = "Byte k of the latest image();")
    static void p31_latest() {
        MoodBread x = townOf(P);
        x.image();
        x.go(7);
        due("it stays as HOURS come", x.octet(1), 0);
        x.image();
        due("the latest", x.octet(1), 7);
        Checks.town(x, TOWN);
        due("it stays with another TOWN", x.octet(1), 7);
        due("its size, too", x.octet(5), NONE);
    }

    @Sentence(at = "Promise 31", says = "NONE when there is none such.")
    static void p31_noneSuch() {
        MoodBread x = townOf(FULL);
        nones(x, () -> x.octet(0), () -> x.octet(-1));
        x.image();
        due("the first one", x.octet(0), 0);
        due("the last one", x.octet(96) == NONE, false);
        for (int k : outside(97)) {
            nones(x, () -> x.octet(k));
        }
        Checks.town(x, P);
        x.image();
        for (int k : outside(5)) {
            nones(x, () -> x.octet(k));
        }
    }

    @Sentence(at = "Promise 32", says = "The tape (it goes) is AN IMAGE of this TOWN: true, all is as it tells,")
    static void p32_allIsAsItTells() {
        MoodBread x = townOf(TOWN);
        x.go(300);
        x.calm(1, 0, 33);
        x.knead(1, 7);
        String image = Checks.image(x);
        MoodBread y = townOf(TOWN);
        y.go(1);
        Checks.see(y, 0, 0, 0, 5);
        due("on", Checks.on(y, image), true);
        due("what is SEEN it does not tell", y.has(7), 1);
        due("the tape goes", tapeAfterwards(y), 20);
        due("as it tells", Checks.image(y).equals(image), true);
        x.go(77);
        y.go(77);
        due("it goes on as it does", Checks.image(y).equals(Checks.image(x)), true);
        due("a faulty one", Checks.on(y, "x"), false);
        due("the tape goes", tapeAfterwards(y), 20);
        MoodBread full = townOf(FULL);
        full.go(30);
        String all = Checks.image(full);
        full.go(30);
        due("all there can be", Checks.on(full, all), true);
        due("as it tells", Checks.image(full).equals(all), true);
    }

    @Sentence(at = "Promise 32", says = "nothing can be undone;")
    static void p32_nothingCanBeUndone() {
        MoodBread x = townOf(TOWN);
        String image = Checks.image(x);
        x.go(1);
        x.go(1);
        Checks.on(x, image);
        due("ACTS", x.has(8), 0);
        due("undo", x.undo(), false);
        due("as it tells", x.has(5), 0);
    }

    @Sentence(at = "Promise 32", says = "false, refused (5), when it is none")
    static void p32_noImage() {
        MoodBread x = townOf(TOWN);
        String image = Checks.image(x);
        String[] wrong = {"", "x", image.substring(1), image.substring(0, 20), image + " ", image + image, checked(image + "?"),
            checked(image.substring(0, 19) + "?"), image.substring(0, 20) + (char) ((image.charAt(20) + 1) % 251),
            image.substring(0, 20) + (char) 251, image.substring(0, 20) + (char) 255, Checks.image(townOf(P)), Checks.image(townOf(FULL))};
        for (int i = 0; i < wrong.length; i++) {
            due("wrong " + i, Checks.on(x, wrong[i]), false);
            due("refused", x.status(5), i + 1);
        }
        due("right", Checks.on(x, image), true);
        Checks.tape(x, "\0".repeat(1600));
        due("1600 bytes", x.on(), false);
        // the last byte is below 251: one that is 251 more is none
        MoodBread y = townOf("");
        due("HOUR 20", Checks.on(y, Checks.bytes(0, 20, 0)), true);
        due("HOUR 20, 251", Checks.on(y, Checks.bytes(0, 20, 251)), false);
    }

    @Sentence(at = "Promise 32", says = "(HOURS 9999,")
    static void p32_hours9999() {
        MoodBread x = townOf("");
        due("9999", Checks.on(x, imageOf(9999)), true);
        due("10000", Checks.on(x, imageOf(10000)), false);
        due("65535", Checks.on(x, imageOf(65535)), false);
        due("9999 it is", x.has(5), 9999);
    }

    @Sentence(at = "Promise 32", says = "MOODS 99 at most,")
    static void p32_moods99() {
        MoodBread x = townOf("mood m;mood n;person p is 1 2;loaf l leaven 0 by p;");
        int[] most = {99, 99, 99, 99, 1, 99, 99};
        due("99", Checks.on(x, imageOf(0, most)), true);
        for (int at : new int[] {0, 1, 2, 3, 5, 6}) {
            for (int octet : new int[] {100, 128, 255}) {
                int[] more = most.clone();
                more[at] = octet;
                due(octet + " at " + at, Checks.on(x, imageOf(0, more)), false);
            }
            int[] none = most.clone();
            none[at] = 0;
            due("0 at " + at, Checks.on(x, imageOf(0, none)), true);
        }
    }

    @Sentence(at = "Promise 32", says = "1 to 3 PEOPLE that there are knead each LOAF),")
    static void p32_1To3Knead() {
        MoodBread x = townOf(FOUR + "loaf k leaven 0 by d;");
        for (int who = 0; who < 256; who++) {
            boolean can = who >= 1 && who <= 14;
            if (who < 20 || who > 250) {
                due("the first LOAF by " + who, Checks.on(x, imageOf(0, who, 1)), can);
                due("the second LOAF by " + who, Checks.on(x, imageOf(0, 14, who)), can);
            }
        }
        MoodBread full = townOf(FULL);
        String image = Checks.image(full);
        due("the last three", Checks.on(full, with(image, 91, 0xe0)), true);
        due("the last four", Checks.on(full, with(image, 91, 0xf0)), false);
        due("nobody", Checks.on(full, with(image, 91, 0)), false);
    }

    @Sentence(at = "Promise 32", says = "all staying.")
    static void p32_allStaying() {
        MoodBread x = townOf(TOWN);
        x.go(30);
        x.knead(0, 4);
        Checks.see(x, 0, 0, 0, 80);
        String before = all(x);
        String image = Checks.image(x);
        for (int at : new int[] {0, 2, 13, 15, 17, 19}) {
            due("wrong at " + at, Checks.on(x, with(with(with(image, 1, 99), 3, 7), at, 200)), false);
        }
        due("all stays", all(x).equals(before), true);
        due("ACTS, too", x.has(8), 2);
        due("undo", x.undo(), true);
    }

    @Sentence(at = "Promise 33", says = "How many were refused: 0 feed(), end(); 1 town(), see(); 2 go(), knead(), calm(), days(); 3 undo(); 4 seed(); 5 on().")
    static void p33_status() {
        MoodBread x = new MoodBread();
        status(x, 0, 0, 0, 0, 0, 0);
        x.end(1);
        status(x, 1, 0, 0, 0, 0, 0);
        Checks.tape(x, " ".repeat(1600));
        x.feed(0, 0, 0, 0, 0);
        status(x, 2, 0, 0, 0, 0, 0);
        Checks.town(x, "#");
        status(x, 2, 1, 0, 0, 0, 0);
        x.see();
        status(x, 2, 2, 0, 0, 0, 0);
        x.go(0);
        status(x, 2, 2, 1, 0, 0, 0);
        x.knead(0, 1);
        status(x, 2, 2, 2, 0, 0, 0);
        x.calm(0, 0, 0);
        status(x, 2, 2, 3, 0, 0, 0);
        x.days(0);
        status(x, 2, 2, 4, 0, 0, 0);
        x.undo();
        status(x, 2, 2, 4, 1, 0, 0);
        x.seed(-1);
        status(x, 2, 2, 4, 1, 1, 0);
        x.on();
        status(x, 2, 2, 4, 1, 1, 1);
        Checks.town(x, TOWN);
        Checks.ask(x, 0, "#");
        Checks.ask(x, 9, "first all");
        x.hands(9, 9, 9, 9, 9, 9);
        status(x, 2, 2, 4, 1, 1, 1);
    }

    private static void status(MoodBread x, int... due) {
        for (int what = 0; what < 6; what++) {
            due("status(" + what + ")", x.status(what), due[what]);
        }
    }

    @Sentence(at = "Promise 33", says = "NONE for others.")
    static void p33_others() {
        MoodBread x = new MoodBread();
        for (int what : outside(6)) {
            due("status(" + what + ")", x.status(what), NONE);
        }
    }
}
