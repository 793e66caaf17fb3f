/** Promises 4, 5 and 29: which texts have which FAULT, and where. A | in a text stands where the FAULT is. */
public final class FaultTest {
    private static final Checks CHECKS = new Checks("FaultTest");
    private static final String START = "mood m;mood n;person p is 5 6;person q is 7 8;";
    private static final String LOAF = START + "loaf l leaven 0 by p;";

    private FaultTest() {
    }

    public static void main(String[] args) {
        signsAndWords();
        numbers();
        names();
        tooManyOpen();
        tooManyOfAKind();
        wordsOfTheirPlaces();
        goodTowns();
        questions();
        CHECKS.finish();
    }

    private static void town(int number, String marked) {
        check(new MoodBread(), true, number, marked);
    }

    private static void question(int number, String marked) {
        check(Checks.townOf(LOAF), false, number, marked);
    }

    private static void check(MoodBread x, boolean ofTown, int number, String marked) {
        int place = marked.indexOf('|');
        Checks.tape(x, marked.substring(0, place) + marked.substring(place + 1));
        if (ofTown) {
            CHECKS.due("town of " + marked, x.town(), MoodBread.NONE);
        } else {
            CHECKS.due("question " + marked, x.ask(0), MoodBread.NOTHING);
        }
        CHECKS.due("the fault of " + marked, x.fault(0), number);
        CHECKS.due("its place in " + marked, x.fault(1), place);
    }

    private static void good(String text, int statements) {
        MoodBread x = new MoodBread();
        CHECKS.due("town of " + text, Checks.town(x, text), statements);
        CHECKS.due("the fault of " + text, x.fault(0), 0);
        CHECKS.due("its place in " + text, x.fault(1), MoodBread.NONE);
    }

    private static void goodQuestion(String text) {
        MoodBread x = Checks.townOf(LOAF);
        CHECKS.due("question " + text, Checks.ask(x, 0, text) != MoodBread.NOTHING, true);
        CHECKS.due("the fault of " + text, x.fault(0), 0);
        CHECKS.due("its place in " + text, x.fault(1), MoodBread.NONE);
    }

    private static void signsAndWords() {
        town(1, "|;");
        town(1, "bake 5;|;");
        town(1, "|5;");
        town(1, "|mo");
        town(1, "|moods a;");
        town(1, "|Mood a;");
        town(1, "mood |A;");
        town(1, "mood a|B;");
        town(1, "mood|\ta;");
        town(1, "mood a|\r\n;");
        town(1, "|" + (char) 233 + ";");
        town(1, "|clock;");
        town(1, "|hour;");
        town(1, "mood a|");
        town(1, "mood a \n |");
        town(1, "mood|");
        town(1, "mood |;");
        town(1, "mood |7;");
        town(1, "mood a|7;");
        town(1, "mood a |b;");
        town(1, START + "person r |leaven 1 2;");
        town(1, START + "person r |iss 1 2;");
        town(1, START + "person r is 1|;");
        town(1, START + "person r is 1 2 |3;");
        town(1, START + "person r is 1 2|and");
        town(1, START + "person r is|1 2;");
        town(1, START + "person r is 1 |x;");
        town(1, "person r is |5;");
        town(1, START + "loaf l leaven 5 by |;");
        town(1, START + "loaf l leaven 5 by p |7;");
        town(1, START + "loaf l leaven 5|by p;");
        town(1, START + "loaf l leaven 5 by p|,q;");
        town(1, LOAF + "eats p l |by 5;");
        town(1, LOAF + "eats p l at |x;");
        town(1, "deed d when |;");
        town(1, "deed d when 1|;");
        town(1, "deed d when 1 < 2 |3;");
        town(1, "deed d when 1 < 2 |< 3;");
        town(1, "deed d when 1 |! 2;");
        town(1, "deed d when [1 < 2|);");
        town(1, "deed d when (1|<2);");
        town(1, "deed d when all and |;");
        town(1, "deed d when all |all;");
        town(1, "deed d when all |+ 1;");
        town(1, "deed d when 1 + |all;");
        town(1, "deed d when 1 + |[all];");
        town(1, "turn |-1;");
        town(1, "turn 1 +|;");
        town(1, "turn min |1;");
        town(1, "turn min(1|);");
        town(1, "turn max(1,2|,3);");
        town(1, "turn (1|;");
        town(1, "turn 5|clock;");
        town(1, "turn clock|5;");
    }

    private static void numbers() {
        town(1, "bake 0000|5;");
        town(1, "bake 1234|5;");
        town(2, "bake |24;");
        town(2, "bake |9999;");
        town(2, "bake |24x;");
        town(2, "evening |24;");
        town(2, "whim |100;");
        town(1, "whim |x;");
        town(2, START + "person r is 5 |100;");
        town(1, START + "person r is 5 1000|0;");
        town(2, START + "loaf l leaven |101 by p;");
        town(2, LOAF + "eats p l at |24;");
        town(1, "turn 1234|5;");
        town(1, "deed d when feel 1234|5 = 1;");
    }

    private static void names() {
        town(1, "mood abcdef|g;");
        town(1, "mood evenin|gs;");
        town(1, "mood |evening;");
        town(1, "mood |or;");
        town(1, "mood |min;");
        town(1, "person |loaf is;");
        town(3, "mood a;mood |a;");
        town(3, START + "person |m is 1 2;");
        town(3, START + "person |p is 1 2;");
        town(3, START + "loaf |q leaven 1 by p;");
        town(3, LOAF + "deed |l when all;");
        town(3, "deed d when all;deed |d when all;");
        town(3, START + "loaf l leaven 1 by |x;");
        town(3, START + "loaf l leaven 1 by |m;");
        town(3, START + "loaf l leaven 1 by |l;");
        town(3, START + "loaf l leaven 1 by p q |p;");
        town(1, START + "loaf l leaven 1 by |by;");
        town(1, START + "loaf l leaven 1 by p |is;");
        town(1, START + "loaf l leaven 1 by p abcdef|g;");
        town(3, LOAF + "eats |l l at 5;");
        town(3, LOAF + "eats p |p at 5;");
        town(1, LOAF + "eats |at l at 5;");
        town(1, LOAF + "eats p abcdef|gh at 5;");
    }

    private static void tooManyOpen() {
        town(4, "turn ((((((|(1)))))));");
        town(4, "turn min(1,(((((max|(1,2))))));");
        town(4, "turn min((((((|(1))))),2);");
        town(4, "turn 1+max(1,2)*((((((max|(1,2)))))));");
        good("turn min((((((1))))),(((((2)))))) + max((((((3))))),4);", 1);
        town(4, "deed d when not not not not not not |not all;");
        town(4, "deed d when [[[[[[|[all]]]]]]];");
        town(4, "deed d when not[not[feel(|feel feel 1)=1]];");
        town(4, "deed d when nature nature nature nature nature nature |nature 1 = 1;");
        town(1, "deed d when not not not not not not |;");
        town(1, "turn ((((((|[");
        good("turn ((((((1))))))+((((((1))))));", 1);
        good("deed d when not not not not not not all and not not not not not not all;", 1);
        good("deed d when feel feel feel feel feel feel 1 + feel feel feel feel feel feel 1 = 1;", 1);
        good("deed d when not [not (1) = 1 and [not (feel 1) = 1]];", 1);
    }

    private static void tooManyOfAKind() {
        town(5, "mood a;mood b;mood c;mood d;|mood e;");
        town(5, "mood a;mood b;mood c;mood d; |mood ;");
        town(5, "mood a;person p is 1;|mood b;");
        town(5, "person a is;person b is;person c is;person d is;person e is;person f is;person g is;person h is;|person h is;");
        town(5, LOAF + "loaf a leaven 1 by p;loaf b leaven 1 by p;loaf c leaven 1 by p;loaf d leaven 1 by p;loaf e leaven 1 by p;"
            + "|loaf f leaven 1 by p;");
        town(5, LOAF + "eats p l at 5;".repeat(16) + "|eats p l at 5;");
        town(5, "deed a when all;deed b when all;deed c when all;deed d when all;deed e when all;deed f when all;|deed a when all;");
        town(5, "turn 1;|turn 2;");
        town(5, "night 1;turn 1;|night;");
        String three = "mood m;person p is 1;person q is 1;person r is 1;person s is 1;loaf l leaven 0 by p q r ";
        town(5, three + "|s;");
        town(5, three + "|p;");
        town(5, three + "|x;");
        town(5, three + "|mood;");
        town(5, three + "|abcdefgh;");
        town(1, three + "|7;");
        town(5, "whim 1;".repeat(60) + "|whim 1;");
        town(5, "whim 1;".repeat(60) + " |#");
        town(5, "whim 1;".repeat(60) + "|;");
        good("whim 1;".repeat(60) + " \n ", 60);
        good(three + ";", 6);
    }

    private static void wordsOfTheirPlaces() {
        for (String word : new String[] {"own", "now", "bread", "which"}) {
            good("turn " + word + ";night " + word + ";", 2);
            town(1, "deed d when |" + word + " = 1;");
            question(1, "first |" + word + " = 1");
        }
        for (String word : new String[] {"feel", "nature"}) {
            good("deed d when " + word + " 1 = 1;", 1);
            town(1, "turn |" + word + " 1;");
            town(1, "night |" + word + " 1;");
            goodQuestion("first " + word + " 1 = 1");
        }
        for (String word : new String[] {"hour", "does 1"}) {
            town(1, "turn |" + word + ";");
            town(1, "deed d when |" + word + " = 1;");
            goodQuestion("total " + word);
        }
        for (String word : new String[] {"clock", "day", "7", "(7)", "min(1,2)", "max ( 1 , 2 )"}) {
            good("turn " + word + ";night " + word + ";deed d when " + word + "=1;", 3);
            goodQuestion("most " + word);
        }
    }

    private static void goodTowns() {
        good("", 0);
        good(" \n", 0);
        good("mood abcdef;", 1);
        good("mood hour;person does is 5;loaf first leaven 0 by does;deed total when all;", 4);
        good("mood\na\n;\nperson\nb\nis 0099;", 2);
        good("bake 23;bake 0;evening 23;whim 99;whim 0;", 5);
        good("person a is;loaf b leaven 100 by a;eats a b at 0;", 3);
        good("deed d when[all]or not all and 1<2;turn(own)*2/3;", 2);
    }

    private static void questions() {
        question(1, "|");
        question(1, "  |");
        question(1, "|all");
        question(1, "|firsts all");
        question(1, "|hour");
        question(1, "|7");
        question(1, "first|");
        question(1, "first all|;");
        question(1, "first all |all");
        question(1, "first 1|");
        question(1, "first |foo");
        question(1, "total |all");
        question(1, "total 1 |< 2");
        question(1, "first|5 = 5");
        question(1, "total 1234|5");
        question(1, "total 5|hour");
        question(1, "total does|");
        question(4, "total does does does does does does |does 1");
        question(4, "first not [not (feel (|nature does 1)) = 1]");
        goodQuestion("total does does does does does does 1");
        goodQuestion(" often\nall ");
        goodQuestion("least(hour)");
    }
}
