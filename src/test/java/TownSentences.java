/** Part I of the Terms: the bounds of a TOWN's text, how SUMS and TESTS are reckoned at their edges, the FAULTS. */
final class TownSentences extends Sentences {
    private static final String P = "mood m;person p is 5;";
    private static final String L = P + "loaf l leaven 0 by p;";
    private static final String FOUR = "person p is;person q is;person r is;person s is;";
    private static final String[] OWN_WORDS = {"mood", "person", "is", "loaf", "leaven", "by", "eats", "at", "deed", "when", "turn", "night",
        "bake", "evening", "whim", "clock", "day", "own", "now", "bread", "which", "feel", "nature", "or", "and", "not", "all", "min", "max"};

    private TownSentences() {
    }

    // ---- the STATEMENTS

    @Sentence(at = "I", says = "A TOWN is a text: { STATEMENT ; } (60 at most):")
    static void i01_noneTo60Statements() {
        good("");
        good(" \n ");
        good("whim 1;");
        good("whim 1;".repeat(60));
        fault(5, "whim 1;".repeat(60) + "|whim 1;");
        fault(1, "whim 1|");
        fault(1, "whim 1 |whim 1;");
        fault(1, "whim 1;|;");
    }

    @Sentence(at = "I", says = "mood NAME (4 MOODS;")
    static void i02_4Moods() {
        MoodBread x = townOf("mood a;mood b;mood c;mood d;person p is 1 2 3 4;");
        due("has(0)", x.has(0), 4);
        due("the fourth", x.feels(0, 3, 0), 4);
        fault(5, "mood a;mood b;mood c;mood d;|mood e;");
    }

    @Sentence(at = "I", says = "all ahead of the first of the PEOPLE);")
    static void i02_moodsAheadOfPeople() {
        good("bake 1;mood a;turn 1;mood b;deed d when all;mood c;person p is 1 2 3;");
        fault(5, "mood a;person p is 1;|mood b;");
        fault(5, "person p is;|mood b;");
        fault(5, "mood a;person p is 1;whim 1;deed d when all;|mood b;");
    }

    @Sentence(at = "I", says = "person NAME is N .. N (as many as there are MOODS,")
    static void i03_asManyNumbersAsMoods() {
        String moods = "";
        String numbers = "";
        for (int n = 0; n <= 4; n++) {
            good(moods + "person p is" + numbers + ";");
            fault(1, moods + "person p is" + numbers + " |7;");
            if (n > 0) {
                fault(1, moods + "person p is" + numbers.substring(2) + "|;");
                due("the last one's nature", townOf(moods + "person p is" + numbers + ";").feels(0, n - 1, 1), n);
            }
            moods += "mood " + (char) ('a' + n) + ";";
            numbers += " " + (n + 1);
        }
    }

    @Sentence(at = "I", says = "as there are MOODS, 0 .. 99;")
    static void i03_natures0To99() {
        MoodBread x = townOf("mood a;mood b;person p is 0 99;");
        due("0", x.feels(0, 0, 1), 0);
        due("99", x.feels(0, 1, 1), 99);
        fault(2, "mood a;mood b;person p is 99 |100;");
        fault(2, "mood a;mood b;person p is |100 99;");
        fault(1, "mood a;mood b;person p is 0 |-1;");
    }

    @Sentence(at = "I", says = "8 PEOPLE);")
    static void i03_8People() {
        String eight = "";
        for (char c = 'a'; c <= 'h'; c++) {
            eight += "person " + c + " is;";
        }
        due("has(1)", townOf(eight).has(1), 8);
        due("the eighth", townOf(eight).letter(1, 7, 0), 8);
        fault(5, eight + "|person i is;");
    }

    @Sentence(at = "I", says = "loaf NAME leaven N by NAME { NAME } (0 .. 100;")
    static void i04_leaven0To100() {
        due("0", townOf(P + "loaf l leaven 0 by p;").loaf(0, 0), 0);
        due("100", townOf(P + "loaf l leaven 100 by p;").loaf(0, 0), 100);
        fault(2, P + "loaf l leaven |101 by p;");
        fault(1, P + "loaf l leaven |-1 by p;");
    }

    @Sentence(at = "I", says = "PEOPLE, unlike ones,")
    static void i04_unlikePeopleKnead() {
        good(FOUR + "loaf l leaven 0 by s q;");
        fault(3, FOUR + "loaf l leaven 0 by p |p;");
        fault(3, FOUR + "loaf l leaven 0 by p q |p;");
        fault(3, FOUR + "loaf l leaven 0 by p q |q;");
        fault(3, L + "loaf k leaven 0 by |m;");
        fault(3, L + "loaf k leaven 0 by |l;");
        fault(3, L + "loaf k leaven 0 by |k;");
        fault(3, L + "deed d when all;loaf k leaven 0 by p |d;");
    }

    @Sentence(at = "I", says = "3 at most;")
    static void i04_1To3PeopleKnead() {
        fault(1, FOUR + "loaf l leaven 0 by |;");
        due("one", townOf(FOUR + "loaf l leaven 0 by s;").loaf(0, 1), 8);
        due("two", townOf(FOUR + "loaf l leaven 0 by s p;").loaf(0, 1), 9);
        due("three", townOf(FOUR + "loaf l leaven 0 by s p r;").loaf(0, 1), 13);
        fault(5, FOUR + "loaf l leaven 0 by s p r |q;");
    }

    @Sentence(at = "I", says = "6 LOAVES);")
    static void i04_6Loaves() {
        String six = P;
        for (char c = 'a'; c <= 'f'; c++) {
            six += "loaf l" + c + " leaven 0 by p;";
        }
        due("has(2)", townOf(six).has(2), 6);
        due("the sixth", townOf(six).letter(2, 5, 1), 6);
        fault(5, six + "|loaf lg leaven 0 by p;");
    }

    @Sentence(at = "I", says = "eats NAME NAME at N (one of the PEOPLE, a LOAF,")
    static void i05_onePersonEatsALoaf() {
        good(L + "eats p l at 5;");
        fault(3, L + "eats |l l at 5;");
        fault(3, L + "eats |m l at 5;");
        fault(3, L + "eats p |p at 5;");
        fault(3, L + "eats p |m at 5;");
        fault(1, L + "eats p |at 5;");
        fault(1, L + "eats p l |5;");
        fault(1, L + "eats p l |l at 5;");
    }

    @Sentence(at = "I", says = "a LOAF, 0 .. 23;")
    static void i05_mealsAt0To23() {
        String night = "turn now + 1;evening 12;";
        MoodBread x = townAt(L + night + "eats p l at 23;eats p l at 0;", 22);
        due("ahead of 23", x.feels(0, 0, 0), 5);
        due("23", x.later(0, 0, 1), 6);
        due("0", x.later(0, 0, 2), 7);
        fault(2, L + "eats p l at |24;");
        fault(1, L + "eats p l at |-1;");
    }

    @Sentence(at = "I", says = "16 MEALS);")
    static void i05_16Meals() {
        MoodBread x = townOf(L + "turn now + 1;" + "eats p l at 7;".repeat(16));
        due("has(3)", x.has(3), 16);
        due("all are eaten", x.later(0, 0, 7), 21);
        fault(5, L + "eats p l at 7;".repeat(16) + "|eats p l at 7;");
    }

    @Sentence(at = "I", says = "deed NAME when TEST (6 DEEDS);")
    static void i06_6Deeds() {
        String six = "person p is;";
        for (char c = 'a'; c <= 'f'; c++) {
            six += "deed d" + c + " when " + (c == 'f' ? "all;" : "not all;");
        }
        due("has(4)", townOf(six).has(4), 6);
        due("the fifth", townOf(six).does(0, 4), 0);
        due("the sixth", townOf(six).does(0, 5), 1);
        fault(5, six + "|deed dg when all;");
        MoodBread x = townOf(six + "turn 1;night 1;");
        due("turn and night are none", x.has(6), 1);
        due("the sixth, with turn and night", x.does(0, 5), 1);
        due("the fifth, with turn and night", x.does(0, 4), 0);
        due("has(6)", townOf(FULL).has(6), 48);
    }

    @Sentence(at = "I", says = "turn SUM, night SUM (one each);")
    static void i07_oneTurnOneNight() {
        good("turn 1;night 2;");
        good("night 2;turn 1;");
        fault(5, "turn 1;|turn 1;");
        fault(5, "night 1;|night 1;");
        fault(5, "turn 1;night 1;|turn 1;");
        fault(5, "turn 1;night 1;|night 1;");
    }

    @Sentence(at = "I", says = "bake N, evening N (0 .. 23),")
    static void i08_bakeAndEvening0To23() {
        due("bake 0", townAt(L + "bake 0;", 23).bread(0, 0), 0);
        due("bake 0", townAt(L + "bake 0;", 24).bread(0, 0), 5);
        due("bake 23", townAt(L + "bake 23;", 22).bread(0, 0), 0);
        due("bake 23", townAt(L + "bake 23;", 23).bread(0, 0), 5);
        due("evening 0", townOf(P + "night own + 1;evening 0;").later(0, 0, 23), 5);
        due("evening 0", townOf(P + "night own + 1;evening 0;").later(0, 0, 24), 6);
        due("evening 23", townOf(P + "night own + 1;evening 23;").later(0, 0, 22), 5);
        due("evening 23", townOf(P + "night own + 1;evening 23;").later(0, 0, 23), 6);
        fault(2, "bake |24;");
        fault(2, "evening |24;");
        fault(1, "bake |-1;");
        fault(1, "evening |-1;");
    }

    @Sentence(at = "I", says = "whim N (0 .. 99):")
    static void i08_whim0To99() {
        due("whim 0", afterADay("whim 0;"), 50);
        due("whim 99", afterADay("whim 99;"), 99);
        fault(2, "whim |100;");
        fault(1, "whim |-1;");
    }

    /** By seed 1 the third DRAW is 2: one's nature is more by whim. */
    private static int afterADay(String settings) {
        MoodBread x = townOf("mood m;person p is 50;" + settings);
        x.days(1);
        return x.feels(0, 0, 1);
    }

    @Sentence(at = "I", says = "the last one of each counts")
    static void i08_theLastOneCounts() {
        MoodBread x = townOf(P + "bake 4;evening 9;whim 3;bake 3;loaf l leaven 0 by p;night own + 1;evening 7;bake 2;whim 30;whim 7;");
        due("bake", townAt(L + "bake 1;bake 3;bake 2;", 1).bread(0, 0), 0);
        x.go(2);
        due("bake 2", x.bread(0, 0), 5);
        due("evening 7", x.later(0, 0, 4), 5);
        due("evening 7", x.later(0, 0, 5), 6);
        due("not evening 9 too", x.later(0, 0, 7), 6);
        x.days(1);
        due("whim 7", x.feels(0, 0, 1), 5 + 7 + 1);
    }

    @Sentence(at = "I", says = "(5, 18, 0 without).")
    static void i08_withoutBakeEveningWhim() {
        String town = L + "night own + 1;";
        due("4", townAt(town, 4).bread(0, 0), 0);
        due("5", townAt(town, 5).bread(0, 0), 5);
        due("17", townAt(town, 17).feels(0, 0, 1), 5);
        due("18", townAt(town, 18).feels(0, 0, 1), 6);
        due("whim", afterADay(""), 50);
        MoodBread x = new MoodBread();
        for (int i = 0; i < 3; i++) {
            Checks.town(x, town + "bake 3;evening 4;whim 99;turn 9;");
        }
        for (int i = 0; i < 3; i++) {
            Checks.town(x, town + "eats p l at 6;");
            x.go(4);
            due("4, behind other TOWNS", x.bread(0, 0), 0);
            x.go(1);
            due("5, behind other TOWNS", x.bread(0, 0), 5);
            due("no turn, behind other TOWNS", x.later(0, 0, 1), 5);
            due("17, behind other TOWNS", x.later(0, 0, 12), 5);
            due("18, behind other TOWNS", x.later(0, 0, 13), 6);
            x.seed(1);
            x.days(1);
            due("whim, behind other TOWNS", x.feels(0, 0, 1), 6);
        }
    }

    // ---- TESTS and SUMS

    @Sentence(at = "I", says = "TEST: BOTH { or BOTH }. BOTH: FACT { and FACT }.")
    static void i10_andBindsAheadOfOr() {
        holds("all or all and not all", true);
        holds("not all and not all or all", true);
        holds("[all or all] and not all", false);
        holds("not all or not all or all", true);
        holds("not all or not all or not all", false);
        holds("all and all and not all", false);
        holds("all and all and all", true);
    }

    @Sentence(at = "I", says = "FACT: not FACT; [ TEST ] ; all; SUM SIGN SUM, SIGN < or > or = .")
    static void i11_facts() {
        holds("all", true);
        holds("not all", false);
        holds("not not all", true);
        holds("not all or all", true);
        holds("not [all or all]", false);
        holds("not 1 = 2", true);
        for (int other = 8; other <= 10; other++) {
            holds("feel 0 < " + other, 9 < other);
            holds("feel 0 > " + other, 9 > other);
            holds("feel 0 = " + other, 9 == other);
        }
        holds("0 - 1 < 0", true);
    }

    @Sentence(at = "I", says = "SUM: PRODUCT { + or - PRODUCT }. PRODUCT: PART { * or / PART }.")
    static void i12_productsBindAheadOfSums() {
        sum("2+3*4", 14);
        sum("2*3+4", 10);
        sum("20-6/3", 18);
        sum("20/5-3", 1);
        sum("1+2*3-8/4+5", 10);
        sum("1+1+1+1+1+1+1+1", 8);
        sum("2*2*2*2*2*2", 64);
        fault(1, "turn 1+|;");
        fault(1, "turn 1*|;");
        fault(1, "turn |+1;");
        fault(1, "turn |*1;");
        fault(1, "turn 1+|-1;");
        fault(1, "turn 1 |2;");
        fault(1, "turn 1|%2;");
    }

    @Sentence(at = "I", says = "PART: N (1 to 4 digits);")
    static void i12_numbersOf1To4Digits() {
        sum("0", 0);
        sum("7", 7);
        sum("9999", 9999);
        sum("0007", 7);
        sum("0000", 0);
        fault(1, "turn 1000|0;");
        fault(1, "night 0000|7;");
        fault(1, "deed d when 1000|0 = 1;");
        fault(1, "deed d when 1 = 1000|0;");
        questionFault(1, "total 1000|0");
    }

    @Sentence(at = "I", says = "( SUM ) ; min ( SUM , SUM ) ; max ( SUM , SUM ) ; in turn")
    static void i13_minMax() {
        sum("min(3,2)", 2);
        sum("min(2,3)", 2);
        sum("min(2,2)", 2);
        sum("max(3,2)", 3);
        sum("max(2,3)", 3);
        sum("min(0-3,2)", -3);
        sum("max(0-3,0-4)", -3);
        sum("2*(3+4)", 14);
        sum("min(1+1,max(3,4)*2)-1", 1);
    }

    @Sentence(at = "I", says = "clock; day;")
    static void i14_clockAndDayEverywhere() {
        for (String word : new String[] {"clock", "day"}) {
            good("turn " + word + ";night 1+" + word + ";deed d when " + word + "=" + word + "*2;");
            goodQuestion("total " + word);
            goodQuestion("first 1 < " + word);
            fault(1, "turn " + word + " |1;");
            fault(1, "deed d when " + word + "|;");
        }
        good("deed d when feel clock = nature day;");
    }

    @Sentence(at = "I", says = "in turn and night: own; now; bread; which;")
    static void i14_wordsOfTurnAndNight() {
        for (String word : new String[] {"own", "now", "bread", "which"}) {
            good("turn " + word + ";night " + word + ";");
            fault(1, "deed d when |" + word + " = 1;");
            fault(1, "deed d when 1 = |" + word + ";");
            questionFault(1, "total |" + word);
        }
    }

    @Sentence(at = "I", says = "in deeds: feel PART; nature PART.")
    static void i14_wordsOfDeeds() {
        for (String word : new String[] {"feel", "nature"}) {
            good("deed d when " + word + " 0 = " + word + " (1);");
            good("deed d when " + word + " " + word + " min(1,2) < 2;");
            fault(1, "turn |" + word + " 0;");
            fault(1, "night 1 + |" + word + " 0;");
            fault(1, "deed d when " + word + " |= 1;");
        }
    }

    @Sentence(at = "I", says = "(clock is the HOUR modulo 24,")
    static void i15_clock() {
        int[][] clocks = {{0, 0}, {23, 23}, {24, 0}, {47, 23}, {48, 0}, {9999, 15}};
        for (int[] c : clocks) {
            MoodBread x = townAt("person p is;deed d when clock = " + c[1] + ";", c[0]);
            due("HOUR " + c[0], x.does(0, 0), 1);
        }
        due("in turn", townOf(L + "eats p l at 23;evening 12;turn clock;").later(0, 0, 23), 23);
        due("in turn", townAt(L + "eats p l at 0;evening 12;turn clock + 7;", 10).later(0, 0, 14), 7);
    }

    @Sentence(at = "I", says = "day floor(HOUR / 24);")
    static void i15_day() {
        int[][] days = {{0, 0}, {23, 0}, {24, 1}, {47, 1}, {48, 2}, {9983, 415}, {9984, 416}, {9999, 416}};
        for (int[] d : days) {
            MoodBread x = townAt("person p is;deed d when day = " + d[1] + ";", d[0]);
            due("HOUR " + d[0], x.does(0, 0), 1);
        }
        due("in night", townOf(P + "evening 0;night 7 + day;").later(0, 0, 24), 8);
    }

    @Sentence(at = "I", says = "of a MOOD own is what one is by nature, now what one is, bread what the LOAF is")
    static void i16_ownNowBread() {
        String[] sums = {"own", "now", "bread"};
        int[][] turned = {{15, 25}, {10, 20}, {30, 40}};
        for (int i = 0; i < 3; i++) {
            MoodBread x = townOf("mood a;mood b;person p is 10 20;person q is 30 40;loaf l leaven 0 by q;eats p l at 6;turn " + sums[i] + ";");
            x.calm(0, 0, 15);
            x.calm(0, 1, 25);
            due("turn " + sums[i], x.later(0, 0, 6), turned[i][0]);
            due("turn " + sums[i], x.later(0, 1, 6), turned[i][1]);
        }
        int[][] slept = {{16, 26}, {31, 41}};
        for (int i = 0; i < 2; i++) {
            MoodBread x = townOf("mood a;mood b;person p is 10 20;person q is 30 40;loaf l leaven 0 by q;eats p l at 17;night " + sums[i] + " + 1;");
            x.calm(0, 0, 15);
            x.calm(0, 1, 25);
            x.go(18);
            for (int mood = 0; mood < 2; mood++) {
                due("night " + sums[i], x.feels(0, mood, 1), slept[i][mood]);
            }
        }
    }

    @Sentence(at = "I", says = "(0 in night),")
    static void i16_bread0InNight() {
        String town = "mood a;person p is 10;person q is 30;loaf l leaven 0 by q;night bread + 7;eats p l at ";
        due("behind a meal", townOf(town + "17;").later(0, 0, 18), 7);
        due("a meal in the same HOUR", townOf(town + "18;").later(0, 0, 18), 7);
        due("with a turn", townOf("turn bread;" + town + "18;").later(0, 0, 18), 7);
        due("him who has eaten nothing", townOf(town + "18;").later(1, 0, 18), 7);
    }

    @Sentence(at = "I", says = "which its number;")
    static void i16_whichFrom0() {
        MoodBread x = townOf("mood a;mood b;mood c;mood d;person p is 9 9 9 9;loaf l leaven 0 by p;eats p l at 6;"
            + "turn which * 5 + 1;night which * 7 + 2;");
        for (int mood = 0; mood < 4; mood++) {
            due("turn", x.later(0, mood, 6), 5 * mood + 1);
            due("night", x.later(0, mood, 18), 7 * mood + 2);
        }
    }

    @Sentence(at = "I", says = "feel, nature: what one is, by nature is, by the MOOD of that number,")
    static void i17_feelAndNature() {
        MoodBread x = townOf("mood a;mood b;mood c;mood d;person o is 1 2 3 4;person p is 11 12 13 14;deed x when feel 0 = 11 and feel 3 = 14;"
            + "deed y when nature 0 = 50 and nature 3 = 99;");
        due("not of another one", x.does(0, 0), 0);
        due("feel", x.does(1, 0), 1);
        due("nature", x.does(1, 1), 0);
        x.calm(1, 0, 50);
        x.calm(1, 3, 99);
        due("feel", x.does(1, 0), 1);
        due("nature", x.does(1, 1), 1);
        due("in a QUESTION", Checks.ask(x, 1, "most feel 0 * nature 3"), 50 * 99);
        due("in a QUESTION", Checks.ask(x, 1, "least feel 0 * nature 3"), 11 * 99);
    }

    @Sentence(at = "I", says = "0 of numbers that there are not.)")
    static void i17_0OfMoodsThatThereAreNot() {
        for (String number : new String[] {"2", "3", "4", "9999", "(0-1)", "(9999*9999)", "(0-9999*9999)"}) {
            holds("feel " + number + " = 0 and nature " + number + " = 0", true);
        }
        holds("feel 1 = 40 and nature 1 = 40", true);
        MoodBread x = townOf("mood a;mood b;mood c;mood d;person p is 1 2 3 4;");
        Checks.town(x, "mood a;person p is 7;deed d when feel 1 + feel 2 + nature 1 + nature 3 = 0;");
        due("MOODS of another TOWN", x.does(0, 0), 1);
        due("none has the MOODS of the next one", townOf(FULL.replace("da when all", "da when feel 4 + nature 4 > 0")).has(6), 40);
        for (int i = 0; i < 3; i++) {
            Checks.town(x, "mood a;mood b;mood c;mood d;person p is 1 2 3 4;");
            Checks.town(x, "mood a;mood b;mood c;mood d;person p is 1 2 3 4;");
            Checks.town(x, "mood a;person p is 7;deed d when feel 1 + feel 2 + nature 1 + nature 3 = 0;");
            due("MOODS of other TOWNS", x.does(0, 0), 1);
        }
        due("without MOODS", townOf("person p is;deed d when feel 0 + nature 0 = 0;").does(0, 0), 1);
    }

    @Sentence(at = "I", says = "All from the left on;")
    static void i18_fromTheLeftOn() {
        sum("7-2-3", 2);
        sum("7-2+3", 8);
        sum("60/7/2", 4);
        sum("60/7*2", 16);
        sum("2*60/7", 17);
        sum("7+2*3", 13);
        sum("7-8/3*2", 3);
        sum("2*3-4/2*3", 0);
    }

    @Sentence(at = "I", says = "/ gives the greatest whole number not above,")
    static void i18_quotients() {
        sum("7/2", 3);
        sum("6/2", 3);
        sum("1/2", 0);
        sum("0/5", 0);
        sum("(0-7)/2", -4);
        sum("(0-6)/2", -3);
        sum("(0-1)/9999", -1);
        sum("7/(0-2)", -4);
        sum("1/(0-9999)", -1);
        sum("(0-7)/(0-2)", 3);
        sum("(0-1)/(0-2)", 0);
        sum("0/(0-2)", 0);
        sum("(0-1000*1000)/(0-1)", 1000000);
    }

    @Sentence(at = "I", says = "by 0 it gives 0;")
    static void i18_by0() {
        sum("7/0", 0);
        sum("0/0", 0);
        sum("(0-7)/0", 0);
        sum("7/(1-1)", 0);
        sum("5+7/0*3", 5);
        holds("feel 0 / feel 2 = 0", true);
    }

    @Sentence(at = "I", says = "each sum, difference, product above 10 to the 6 is that,")
    static void i19_heldAbove() {
        sum("9999*100+99", 999999);
        sum("9999*100+100", 1000000);
        sum("9999*100+101", 1000000);
        sum("9999*100+101-1", 999999);
        sum("9999*100-(0-100)", 1000000);
        sum("9999*100-(0-101)-1", 999999);
        sum("1000*1000-1", 999999);
        sum("1001*1000-1", 999999);
        sum("(0-1001)*(0-1000)-1", 999999);
        sum("9999*9999*9999*9999", 1000000);
        sum("9999*9999/9999", 100);
        sum("1001*1000-1000*1000+7", 7);
    }

    @Sentence(at = "I", says = "below -10 to the 6 likewise.")
    static void i19_heldBelow() {
        sum("0-9999*100-99", -999999);
        sum("0-9999*100-100", -1000000);
        sum("0-9999*100-101", -1000000);
        sum("0-9999*100-101+1", -999999);
        sum("0-9999*100+(0-100)", -1000000);
        sum("0-9999*100+(0-101)+1", -999999);
        sum("(0-1000)*1000+1", -999999);
        sum("(0-1001)*1000+1", -999999);
        sum("1000*(0-1001)+1", -999999);
        sum("(0-9999)*9999*9999", -1000000);
        sum("(0-9999)*9999/9999", -101);
        sum("(0-1001)*1000+1000*1000+7", 7);
    }

    // ---- NAMES, blanks

    @Sentence(at = "I", says = "NAMES: 1 to 6 letters,")
    static void i20_namesOf1To6Letters() {
        for (int n = 1; n <= 6; n++) {
            String name = "abcxyz".substring(6 - n);
            MoodBread x = townOf("mood " + name + ";");
            due("the first of " + n, x.letter(0, 0, 0), name.charAt(0) - 'a' + 1);
            due("the last of " + n, x.letter(0, 0, n - 1), 26);
            due("behind " + n, x.letter(0, 0, n), n == 6 ? NONE : 0);
        }
        fault(1, "mood abcxyz|z;");
        fault(1, "mood |;");
        for (String sign : new String[] {"A", "Z", "_", "`", "{", "@", "[", "" + (char) 0, "" + (char) 127, "" + (char) 225, "" + (char) 255}) {
            fault(1, "mood |" + sign + ";");
            fault(1, "mood a|" + sign + ";");
        }
        fault(1, "mood |7;");
        fault(1, "mood a|7;");
    }

    @Sentence(at = "I", says = "no OWN WORD,")
    static void i20_noOwnWordIsAName() {
        for (String word : OWN_WORDS) {
            fault(1, "mood |" + word + ";");
            fault(1, "person |" + word + " is;");
            fault(1, P + "loaf |" + word + " leaven 0 by p;");
            fault(1, "deed |" + word + " when all;");
        }
    }

    @Sentence(at = "I", says = "OWN WORDS: mood, person, is, loaf, leaven, by, eats, at, deed, when, turn, night, bake, evening, whim, clock, day, own, now,"
        + " bread, which, feel, nature, or, and, not, all, min, max.")
    static void i20_otherWordsAreNames() {
        for (String word : new String[] {"hour", "does", "first", "last", "often", "total", "most", "least", "of", "it", "moo", "moods", "mo",
            "o", "i", "al", "allx", "xall", "natur", "dayday", "eve", "evenin", "leave", "persom", "oranda"}) {
            good("mood " + word + ";");
            good("mood m;person " + word + " is 5;loaf l leaven 0 by " + word + ";eats " + word + " l at 3;");
        }
    }

    @Sentence(at = "I", says = "unlike ones (of all sorts),")
    static void i20_unlikeNamesOfAllSorts() {
        fault(3, "mood a;mood |a;");
        fault(3, "mood a;person |a is 1;");
        fault(3, "mood a;deed |a when all;");
        fault(3, "deed a when all;mood |a;");
        fault(3, "person a is;person |a is;");
        fault(3, "person a is;loaf |a leaven 0 by a;");
        fault(3, "person a is;deed |a when all;");
        fault(3, "deed a when all;person |a is;");
        fault(3, P + "loaf |m leaven 0 by p;");
        fault(3, L + "loaf |l leaven 0 by p;");
        fault(3, L + "deed |l when all;");
        fault(3, L + "person |l is 5;");
        fault(3, "deed a when all;deed |a when all;");
        fault(3, P + "deed a when all;loaf |a leaven 0 by p;");
        good("mood a;mood aa;mood aaa;person aaaa is 1 2 3;loaf aaaaa leaven 0 by aaaa;deed aaaaaa when all;");
        good("mood abcdef;mood abcdeg;mood bbcdef;mood abc;");
    }

    @Sentence(at = "I", says = "told ahead of where they are asked.")
    static void i20_toldAheadOfWhereAsked() {
        fault(3, "mood m;loaf l leaven 0 by |p;person p is 5;");
        fault(3, P + "loaf l leaven 0 by p |q;person q is 5;");
        fault(3, P + "eats p |l at 5;loaf l leaven 0 by p;");
        fault(3, "eats |p l at 5;person p is;loaf l leaven 0 by p;");
        good("person p is;loaf l leaven 0 by p;person q is;eats q l at 5;");
    }

    @Sentence(at = "I", says = "Blanks (10, 32) are where one likes")
    static void i21_blanks() {
        String spaced = " mood m ; person p is 5 ; loaf l leaven 0 by p ; eats p l at 6 ; deed d when not [ feel ( 0 ) < 1 or all ] ;"
            + " turn min ( own , 2 ) * 3 + 1 / 2 - 1 ; night max ( now , 1 ) ; bake 5 ; ";
        good(spaced);
        good(spaced.replace(' ', '\n'));
        good(spaced.replace(" ", " \n\n  "));
        good("mood m;person p is 5;loaf l leaven 0 by p;eats p l at 6;deed d when not[feel(0)<1 or all];"
            + "turn min(own,2)*3+1/2-1;night max(now,1);bake 5;");
        for (int octet : new int[] {0, 9, 11, 12, 13, 31, 33, 127, 133, 160, 255}) {
            fault(1, "|" + (char) octet + "mood m;");
            fault(1, "mood|" + (char) octet + "m;");
            fault(1, "mood m|" + (char) octet + ";");
            fault(1, "mood m;|" + (char) octet);
        }
        fault(1, "|mo od m;");
        fault(1, "mood m;person p is 1 |2;");
    }

    @Sentence(at = "I", says = "(words and numbers side by side need one).")
    static void i21_wordsAndNumbersNeedABlank() {
        fault(1, "bake|5;");
        fault(1, "whim|5;");
        fault(1, "mood m;person p is|5;");
        fault(1, P + "loaf l leaven|5 by p;");
        fault(1, P + "loaf l leaven 5|by p;");
        fault(1, L + "eats p l at|5;");
        fault(1, "deed d when|5 = 5;");
        fault(1, "deed d when not|5 = 5;");
        fault(1, "deed d when feel|0 = 5;");
        fault(1, "deed d when 5 = 5|or all;");
        fault(1, "deed d when 5 = 5|and all;");
        fault(1, "deed d when all and|5 = 5;");
        fault(1, "turn|5;");
        fault(1, "night|5;");
        fault(1, "mood a|5;");
        fault(1, "|moodm;");
        fault(1, "mood m;mood n;person p is 12|;");
        questionFault(1, "total|5");
        questionFault(1, "often 5 = 5|and all");
        good("deed d when(5)=5 and[all or all]or not[all];");
    }

    // ---- FAULTS

    @Sentence(at = "I", says = "FAULTS, the first along the text:")
    static void i30_theFirstAlongTheText() {
        fault(2, "whim |100;mood mood;");
        fault(1, "mood |mood;whim 100;");
        fault(3, "mood a;mood |a;turn 1;turn 1;");
        fault(5, "turn 1;|turn 1 whim 100;");
        fault(4, "turn ((((((|(1);whim 100;");
        fault(2, "whim |100x;");
        fault(3, "mood a;mood |a5;");
        fault(5, "mood a;mood b;mood c;mood d;|mood a;");
        fault(5, "turn 1;|turn;");
    }

    @Sentence(at = "I", says = "1 the first byte with which no such text goes on")
    static void i31_theFirstByteThatGoesNotOn() {
        // each token that is not the last one of a STATEMENT becomes a # in its turn
        String[] tokens = ("mood m ; person p is 5 ; loaf l leaven 0 by p ; eats p l at 6 ; deed d when not [ feel ( 0 ) < 1 or all ] ; "
            + "turn min ( own , 2 ) * 3 ; night now ; bake 5 ; evening 6 ; whim 7 ;").split(" ");
        for (int i = 0; i < tokens.length; i++) {
            StringBuilder text = new StringBuilder();
            for (int k = 0; k < tokens.length; k++) {
                text.append(k == i ? "|#" : tokens[k]).append(' ');
            }
            fault(1, text.toString());
        }
        fault(1, "deed d when (1|<2);");
        fault(1, "deed d when [1<2|);");
        fault(1, "deed d when 1<2|<3;");
        fault(1, "deed d when all|=1;");
        fault(1, "turn min(1|);");
        fault(1, "turn max(1,2|,3);");
        fault(1, "turn 1|);");
        fault(1, "turn |-1;");
    }

    @Sentence(at = "I", says = "(words and numbers whole, at their first byte;")
    static void i31_wordsAndNumbersWhole() {
        fault(1, "|moodx m;");
        fault(1, "|abcdefghij m;");
        fault(1, "|1234567;");
        fault(1, "mood m |abcdefghij;");
        fault(1, "mood m |1234567;");
        fault(1, "person p |isnt;");
        fault(1, P + "loaf l |leavens 0 by p;");
        fault(1, P + "loaf l leaven 0 |bye p;");
        fault(1, P + "loaf l leaven 0 by p |1234567;");
        fault(1, L + "eats p l |atatatat 6;");
        fault(1, "deed d |whenever all;");
        fault(1, "deed d when |nothing;");
        fault(1, "deed d when all |andalso all;");
        fault(1, "deed d when |feels 0 = 1;");
        fault(1, "turn |owner;");
        fault(1, "turn own |1234567;");
        fault(1, "turn |minimum(1,2);");
        fault(1, "bake |fiveorsix;");
        fault(1, "mood m;person p is |fiveorsix;");
    }

    @Sentence(at = "I", says = "where a NAME is asked, an OWN WORD so,")
    static void i31_ownWordsWhereANameIsAsked() {
        for (String word : OWN_WORDS) {
            fault(1, "mood |" + word + ";");
            fault(1, L + "loaf k leaven 0 by |" + word + ";");
            fault(1, L + "loaf k leaven 0 by p |" + word + ";");
            fault(1, L + "eats |" + word + " l at 5;");
            fault(1, L + "eats p |" + word + " at 5;");
        }
    }

    @Sentence(at = "I", says = "a 7th letter of what is no OWN WORD at itself;")
    static void i31_a7thLetter() {
        fault(1, "mood abcdef|g;");
        fault(1, "mood abcdef|ghijkl;");
        fault(1, "mood evenin|gs;");
        fault(1, "mood moodmo|od;");
        fault(1, "person abcdef|g is;");
        fault(1, P + "loaf abcdef|g leaven 0 by p;");
        fault(1, P + "loaf l leaven 0 by abcdef|g;");
        fault(1, P + "loaf l leaven 0 by p abcdef|g;");
        fault(1, L + "eats abcdef|g l at 5;");
        fault(1, L + "eats p abcdef|g at 5;");
        fault(1, "deed abcdef|g when all;");
        fault(1, "mood abcdef;mood abcdef|g;");
        fault(1, "mood |evening;");
    }

    @Sentence(at = "I", says = "where a number is asked, a 5th digit at itself;")
    static void i31_a5thDigit() {
        fault(1, "bake 0000|5;");
        fault(1, "evening 1234|5;");
        fault(1, "whim 9999|99;");
        fault(1, "mood m;person p is 0000|5;");
        fault(1, P + "loaf l leaven 0000|5 by p;");
        fault(1, L + "eats p l at 0000|5;");
        fault(1, "turn 0000|5;");
        fault(1, "night 1+(0000|5);");
        fault(1, "deed d when feel 0000|5=1;");
        fault(1, "deed d when 1=0000|5;");
        good("bake 0005;evening 0006;whim 0007;mood m;person p is 0005;loaf l leaven 0005 by p;eats p l at 0005;turn 0005;");
    }

    @Sentence(at = "I", says = "at the text's length, if it ends too soon);")
    static void i31_endsTooSoon() {
        String[] tokens = ("mood m ; person p is 5 ; loaf l leaven 0 by p ; eats p l at 6 ; deed d when not [ feel ( 0 ) < 1 or all ] ; "
            + "turn min ( own , 2 ) * 3 ; night now ; bake 5 ; evening 6 ; whim 7 ;").split(" ");
        StringBuilder text = new StringBuilder();
        for (String token : tokens) {
            text.append(token);
            if (!token.equals(";")) {
                fault(1, text + "|");
                fault(1, text + " \n|");
            }
            text.append(' ');
        }
        good(text.toString());
    }

    @Sentence(at = "I", says = "2 a number that can't be, at it;")
    static void i32_numbersThatCantBe() {
        for (String number : new String[] {"9999", "1000"}) {
            fault(2, "mood m;person p is |" + number + ";");
            fault(2, P + "loaf l leaven |" + number + " by p;");
            fault(2, L + "eats p l at |" + number + ";");
            fault(2, "bake |" + number + ";");
            fault(2, "evening |" + number + ";");
            fault(2, "whim |" + number + ";");
        }
        fault(2, "mood m;mood n;person p is |0100 1;");
        fault(2, P + "loaf l leaven |0101 by p;");
        fault(2, "bake   |0024 ;");
    }

    @Sentence(at = "I", says = "3 a NAME to be given that is there already,")
    static void i33_namesThatAreThereAlready() {
        fault(3, "mood joy;mood ire;mood |ire;");
        fault(3, "mood joy;person   |joy is 5;");
        fault(3, L + "loaf |p leaven 0 by p;");
        fault(3, L + "deed |l when all;");
        MoodBread x = townOf(L);
        due("names of the TOWN before are not there", Checks.town(x, "mood l;person m is 5;loaf p leaven 0 by m;"), 3);
        Checks.town(x, "mood a;mood b;mood b;");
        due("names of a TOWN with a FAULT are not there", Checks.town(x, "mood b;person a is 5;"), 2);
    }

    @Sentence(at = "I", says = "one that is none of what is asked")
    static void i33_namesOfNoneOfWhatIsAsked() {
        fault(3, L + "loaf k leaven 0 by |x;");
        fault(3, L + "loaf k leaven 0 by p |x;");
        fault(3, L + "loaf k leaven 0 by p |l;");
        fault(3, L + "eats |x l at 5;");
        fault(3, L + "eats p |x at 5;");
        fault(3, L + "eats p |pp at 5;");
        MoodBread x = townOf(L);
        due("names of the TOWN before", Checks.town(x, "mood m;person q is 5;loaf l leaven 0 by p;"), NONE);
        due("their fault", x.fault(0), 3);
        due("its place", x.fault(1), "mood m;person q is 5;loaf l leaven 0 by ".length());
    }

    @Sentence(at = "I", says = "(or told in that row already), at it;")
    static void i33_namesToldInThatRowAlready() {
        fault(3, FOUR + "loaf l leaven 0 by q |q;");
        fault(3, FOUR + "loaf l leaven 0 by q s  |q;");
        good(FOUR + "loaf l leaven 0 by q s;loaf k leaven 0 by q s;");
    }

    @Sentence(at = "I", says = "4 the 7th of ( [ not feel nature that is open at once")
    static void i34_the7thThatIsOpen() {
        good("turn " + "(".repeat(6) + "1" + ")".repeat(6) + ";");
        fault(4, "turn " + "(".repeat(6) + "|(1" + ")".repeat(7) + ";");
        good("night " + "min(".repeat(6) + "1" + ",2)".repeat(6) + ";");
        fault(4, "night " + "min(".repeat(6) + "min |(1" + ",2)".repeat(7) + ";");
        good("night " + "max(1,".repeat(6) + "1" + ")".repeat(6) + ";");
        fault(4, "night " + "max(1,".repeat(6) + "max|(1,1" + ")".repeat(7) + ";");
        good("deed d when " + "[".repeat(6) + "all" + "]".repeat(6) + ";");
        fault(4, "deed d when " + "[".repeat(6) + "|[all" + "]".repeat(7) + ";");
        good("deed d when " + "not ".repeat(6) + "all;");
        fault(4, "deed d when " + "not ".repeat(6) + "|not all;");
        for (String word : new String[] {"feel ", "nature "}) {
            good("deed d when " + word.repeat(6) + "1 = " + word.repeat(6) + "1;");
            fault(4, "deed d when " + word.repeat(6) + "|" + word + "1 = 1;");
            fault(4, "deed d when 1 = " + word.repeat(6) + "|" + word + "1;");
        }
        String[] facts = {"[ ", "not ", "[ ", "not ", "not ", "[ "};
        String[] sums = {"nature ", "( ", "min(1, ", "feel ", "feel ", "( "};
        for (int i = 0; i <= 6; i++) {
            String six = "deed d when ";
            for (int k = 0; k < 6; k++) {
                six += k < i ? facts[k] : sums[k];
            }
            for (String more : new String[] {"|(1", "|feel 1", "|nature 1", "max|(1,1"}) {
                fault(4, six + more);
            }
            fault(i == 6 ? 4 : 1, six + "|[all");
            fault(i == 6 ? 4 : 1, six + "|not all");
        }
        fault(1, "deed d when " + "not ".repeat(6) + "|;");
        fault(1, "turn ((((((|[1");
        fault(1, "turn ((((((|feel 1");
        fault(1, "turn ((((((min|1");
    }

    @Sentence(at = "I", says = "(not until its FACT, feel and nature until their PART ends), at it;")
    static void i34_howLongTheyAreOpen() {
        good("turn ((((((1))))))+((((((1))))))*min((((((1))))),(((((1))))));");
        fault(4, "turn min(1,(((((|(1);");
        fault(4, "turn (((((1)+((2)+(|(3");
        good("deed d when not not not not not not all and not not not not not not all or not all;");
        fault(4, "deed d when not not not not not not |(1)=1;");
        fault(4, "deed d when not not not not not not 1=|(1);");
        fault(4, "deed d when not not not not not not |feel 1=1;");
        fault(4, "deed d when not not not not not not 1=|nature 1;");
        good("deed d when not not not not not (1)=(1) and not not not not not feel 1=(1);");
        good("deed d when not not not not not nature 1+feel 1*(1)=feel 1-feel 1;");
        good("deed d when feel feel feel feel feel feel 1+(1)*nature nature nature nature nature nature 1=((((((1))))));");
        good("deed d when feel feel feel feel feel (1+1)=1;");
        fault(4, "deed d when feel feel feel feel feel (1+|(1))=1;");
        fault(4, "deed d when feel nature feel nature feel nature |(1)=1;");
        good("deed d when [[[[[[all]]]]]] and [[[[[[all]]]]]];");
        good("deed d when not [not [not [all and all]]] and not [not [not [all]]];");
        fault(4, "deed d when not [not [not [all and |[all]]]];");
    }

    @Sentence(at = "I", says = "5 one too many of a kind")
    static void i35_oneTooMany() {
        fault(5, "mood a;mood b;mood c;mood d; |mood ;");
        fault(5, "person a is;person b is;person c is;person d is;person e is;person f is;person g is;person h is; |person");
        String six = L;
        for (char c = 'a'; c <= 'e'; c++) {
            six += "loaf l" + c + " leaven 0 by p;";
        }
        fault(5, six + "|loaf #");
        fault(5, L + "eats p l at 5;".repeat(16) + " \n|eats 7");
        fault(5, "deed a when all;deed b when all;deed c when all;deed d when all;deed e when all;deed f when all;|deed deed");
    }

    @Sentence(at = "I", says = "(a fourth of who knead, whatever word stands there, also an OWN WORD or one told in that row already;")
    static void i35_aFourthOfWhoKnead() {
        String three = FOUR + "loaf k leaven 0 by p;deed d when all;loaf l leaven 0 by p q r ";
        for (String word : new String[] {"s", "p", "q", "r", "k", "l", "d", "x", "abcdefg", "abcdefghijkl", "hour"}) {
            fault(5, three + "|" + word + ";");
        }
        for (String word : OWN_WORDS) {
            fault(5, three + "|" + word + ";");
        }
        fault(1, three + "|7;");
        fault(1, three + "|12345;");
        fault(1, three + "|,s;");
        fault(1, three.trim() + "|7;");
        fault(1, three + "|");
        good(three + ";");
    }

    @Sentence(at = "I", says = "a MOOD behind one of the PEOPLE, a second turn, night, too),")
    static void i35_moodsBehindPeopleSecondTurnNight() {
        fault(5, P + "|mood n;");
        fault(5, P + "|mood mood;");
        fault(5, P + "|mood m;");
        fault(5, "turn own; |turn #;");
        fault(5, "night own; |night 12345;");
        fault(5, "night own;turn own;whim 5;|night");
    }

    @Sentence(at = "I", says = "a 61st STATEMENT (whatever stands there), at its first byte.")
    static void i35_a61stStatement() {
        String sixty = "whim 1;".repeat(60);
        for (String what : new String[] {"whim 1;", "mood m;", ";", "#", "7", "12345", "x", "abcdefgh", "or", "(", "" + (char) 255}) {
            fault(5, sixty + "|" + what);
            fault(5, sixty + " \n |" + what);
        }
        good(sixty + " \n ");
        fault(1, "whim 1;".repeat(59) + "|;");
        fault(1, "whim 1;".repeat(59) + "whim 1|");
    }
}
