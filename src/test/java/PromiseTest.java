/** For each promise of the document: ordinary inputs, the edges that it names, wrong inputs. */
public final class PromiseTest {
    private static final Checks CHECKS = new Checks("PromiseTest");
    private static final int NONE = MoodBread.NONE;

    /** Ann and Bob knead rye (nothing kept), Cid kneads bun (half is kept). */
    private static final String TOWN = "mood joy; mood ire;"
        + "person ann is 80 10; person bob is 20 60; person cid is 50 0;"
        + "loaf rye leaven 0 by ann bob; loaf bun leaven 50 by cid;"
        + "eats cid rye at 7; eats ann bun at 8; eats bob rye at 8;"
        + "deed sing when feel 0 > 60; deed riot when feel 1 > 30 and clock > 6;"
        + "turn (now + bread) / 2;";

    private PromiseTest() {
    }

    public static void main(String[] args) {
        p1NewObject();
        p2Feed();
        p3End();
        p4Town();
        p5Fault();
        p6Has();
        p7Letter();
        p8Feels();
        p9Bread();
        p10Loaf();
        p11Does();
        p12Later();
        p13First();
        p14Often();
        p15Again();
        p16Hands();
        p17Blend();
        p18Left();
        p19Votes();
        p20Go();
        p21Knead();
        p22Calm();
        p23Days();
        p24Undo();
        p25Seed();
        p26See();
        p27Kneaders();
        p28Look();
        p29Ask();
        p30Image();
        p31Octet();
        p32On();
        p33Status();
        CHECKS.finish();
    }

    private static void p1NewObject() {
        MoodBread x = new MoodBread();
        for (int what = 0; what <= 8; what++) {
            CHECKS.due("1: has(" + what + ")", x.has(what), 0);
        }
        CHECKS.due("1: fault", x.fault(0), 0);
        CHECKS.due("1: image", x.image(), 3);
        CHECKS.due("1: town of nothing", x.town(), 0);
        CHECKS.due("1: NONE", MoodBread.NONE, -1);
        CHECKS.due("1: NOTHING", MoodBread.NOTHING, -1000000000000000L);
    }

    private static void p2Feed() {
        MoodBread x = new MoodBread();
        // "mood abcdef;whim 5; " as numbers, the highest byte first
        CHECKS.due("2: feed", x.feed(0x6d6f6f64, 0x20616263, 0x6465663b, 0x7768696d, 0x20353b20), 20);
        CHECKS.due("2: two statements", x.town(), 2);
        CHECKS.due("2: letter", x.letter(0, 0, 5), 6);
        for (int i = 1; i <= 80; i++) {
            CHECKS.due("2: feed", x.feed(i, -1, Integer.MIN_VALUE, i, i), 20 * i);
        }
        CHECKS.due("2: feed above 1600", x.feed(0, 0, 0, 0, 0), NONE);
        CHECKS.due("2: refused", x.status(0), 1);
        x.end(1581);
        CHECKS.due("2: feed above 1600 by one", x.feed(0, 0, 0, 0, 0), NONE);
        x.end(1580);
        CHECKS.due("2: feed to 1600", x.feed(0, 0, 0, 0, 0), 1600);
        // bytes above 127 are bytes: an image with a check byte of 231
        x.end(0);
        x.feed(0x0000e700, 0, 0, 0, 0);
        x.end(3);
        x.town();
        x.feed(0x0000e700, 0, 0, 0, 0);
        x.end(3);
        MoodBread y = new MoodBread();
        y.feed(0x0000e700, -1, -1, -1, -1);
        y.end(3);
        CHECKS.due("2: bytes above 127", y.on(), true);
    }

    private static void p3End() {
        MoodBread x = new MoodBread();
        CHECKS.due("3: end(0) of none", x.end(0), true);
        CHECKS.due("3: end(1) of none", x.end(1), false);
        x.feed(0, 0, 0, 0, 0);
        CHECKS.due("3: end(-1)", x.end(-1), false);
        CHECKS.due("3: end(21)", x.end(21), false);
        CHECKS.due("3: refused", x.status(0), 3);
        CHECKS.due("3: end(20)", x.end(20), true);
        CHECKS.due("3: end(7)", x.end(7), true);
        CHECKS.due("3: feed behind 7", x.feed(0, 0, 0, 0, 0), 27);
        CHECKS.due("3: end(min)", x.end(Integer.MIN_VALUE), false);
    }

    private static void p4Town() {
        MoodBread x = Checks.townOf(TOWN);
        x.go(30);
        x.seed(77);
        Checks.see(x, 0, 0, 0, 5);
        CHECKS.due("4: a faulty town", Checks.town(x, "mood a; mood a;"), NONE);
        CHECKS.due("4: the tape goes", x.feed(0, 0, 0, 0, 0), 20);
        CHECKS.due("4: refused", x.status(1), 1);
        CHECKS.due("4: the hour stays", x.has(5), 30);
        CHECKS.due("4: the moods stay", x.has(0), 2);
        CHECKS.due("4: what is seen stays", x.has(7), 1);
        CHECKS.due("4: the acts stay", x.has(8), 1);
        CHECKS.due("4: the sums stay", x.later(2, 0, 1), x.feels(2, 0, 0));
        CHECKS.due("4: town", Checks.town(x, "mood a; person p is 50; whim 10;"), 3);
        CHECKS.due("4: the tape goes", x.feed(0, 0, 0, 0, 0), 20);
        CHECKS.due("4: hour 0", x.has(5), 0);
        CHECKS.due("4: nothing seen", x.has(7), 0);
        CHECKS.due("4: nothing to undo", x.has(8), 0);
        CHECKS.due("4: undo", x.undo(), false);
        MoodBread y = Checks.townOf("mood a; person p is 50; whim 10;");
        y.seed(77);
        y.days(5);
        x.days(5);
        CHECKS.due("4: the seed stays", x.feels(0, 0, 1), y.feels(0, 0, 1));
        CHECKS.due("4: the last one counts", Checks.townOf("mood a;person p is 9;loaf l leaven 0 by p;bake 3;bake 2;").later(0, 0, 3), 9);
        settings();
        sums();
        manyTexts();
    }

    /** As long texts as there can be, one after the other on one object: none is in the way of the next. */
    private static void manyTexts() {
        MoodBread x = new MoodBread();
        String turn = "mood m;person p is 1;loaf l leaven 0 by p;eats p l at 6;night own+1;deed d when day=1 or all;turn 0" + "+1".repeat(740) + ";";
        for (int i = 0; i < 5; i++) {
            CHECKS.due("4: a long town", Checks.town(x, turn), 7);
            CHECKS.due("4: a long sum", x.later(0, 0, 6), 99);
            CHECKS.due("4: night", x.later(0, 0, 18), 2);
            CHECKS.due("4: a deed", x.does(0, 0), 1);
            CHECKS.due("4: a longer question", Checks.ask(x, 0, "least 0" + "+1".repeat(796)), 796);
            CHECKS.due("4: 1600 bytes", Checks.town(x, " ".repeat(1593) + "whim 5;"), 1);
        }
    }

    private static void settings() {
        MoodBread x = Checks.townOf("mood a;person p is 9;loaf l leaven 0 by p;bake 3;bake 2;");
        x.go(1);
        CHECKS.due("4: not baked", x.bread(0, 0), 0);
        x.go(1);
        CHECKS.due("4: the last bake counts", x.bread(0, 0), 9);
        MoodBread usual = Checks.townOf("mood a;person p is 9;loaf l leaven 0 by p;night own + 1;");
        usual.go(4);
        CHECKS.due("4: not baked by usual", usual.bread(0, 0), 0);
        usual.go(1);
        CHECKS.due("4: baked at 5 by usual", usual.bread(0, 0), 9);
        CHECKS.due("4: evening at 18 by usual", usual.later(0, 0, 12), 9);
        CHECKS.due("4: evening at 18 by usual", usual.later(0, 0, 13), 10);
        MoodBread late = Checks.townOf("mood a;person p is 9;night own + 1;evening 4;evening 7;");
        CHECKS.due("4: the last evening counts", late.later(0, 0, 6), 9);
        CHECKS.due("4: the last evening counts", late.later(0, 0, 7), 10);
        MoodBread midnight = Checks.townOf("mood a;person p is 9;night own + 1;evening 0;");
        CHECKS.due("4: not at hour 0", midnight.feels(0, 0, 0), 9);
        CHECKS.due("4: clock 0", midnight.later(0, 0, 23), 9);
        CHECKS.due("4: clock 0", midnight.later(0, 0, 24), 10);
    }

    private static void sum(String text, int due) {
        MoodBread x = Checks.townOf("mood a;person p is 9;");
        CHECKS.due("I: " + text, Checks.ask(x, 0, "total (" + text + ") * (1 - min(1, hour))"), due);
    }

    private static void sums() {
        sum("7 + 2 * 3", 13);
        sum("7 - 2 - 3", 2);
        sum("60 / 7 / 2", 4);
        sum("60 / 7 * 2", 16);
        sum("(0 - 7) / 2", -4);
        sum("7 / (0 - 2)", -4);
        sum("(0 - 7) / (0 - 2)", 3);
        sum("7 / 0", 0);
        sum("(0 - 7) / 0", 0);
        sum("9999 * 9999", 1000000);
        sum("9999 * 9999 / 9999", 100);
        sum("0 - 9999 * 9999", -1000000);
        sum("0 - 9999 * 9999 - 5", -1000000);
        sum("9999 * 9999 + 5 - 1", 999999);
        sum("(0 - 9999) * 9999 * (0 - 1)", 1000000);
        sum("9999 * 9999 * (9999 * 9999)", 1000000);
        sum("min(3, 2) + max(3, 2) * 10", 32);
        sum("min(0 - 3, 2)", -3);
        sum("feel 0 + nature 0", 18);
        sum("feel (0 - 1) + nature 1", 0);
        sum("feel feel 0", 0);
        sum("007", 7);
    }

    private static void p5Fault() {
        MoodBread x = new MoodBread();
        CHECKS.due("5: ahead of any", x.fault(0), 0);
        CHECKS.due("5: ahead of any", x.fault(1), NONE);
        CHECKS.due("5: another what", x.fault(2), NONE);
        CHECKS.due("5: another what", x.fault(-1), NONE);
        Checks.town(x, "whim 5; whim 100;");
        CHECKS.due("5: fault", x.fault(0), 2);
        CHECKS.due("5: place", x.fault(1), 13);
        Checks.town(x, "mood a; person p is 5;");
        CHECKS.due("5: without", x.fault(0), 0);
        CHECKS.due("5: without", x.fault(1), NONE);
        Checks.ask(x, 0, "first own = 1");
        CHECKS.due("5: fault of ask", x.fault(0), 1);
        CHECKS.due("5: place of ask", x.fault(1), 6);
        Checks.ask(x, 1, "first all");
        CHECKS.due("5: stays with nobody asked", x.fault(1), 6);
        Checks.see(x, 9, 9, 9, 9);
        Checks.on(x, "x");
        CHECKS.due("5: stays with see and on", x.fault(0), 1);
        Checks.ask(x, 0, "first all");
        CHECKS.due("5: without", x.fault(0), 0);
    }

    private static void p6Has() {
        MoodBread x = Checks.townOf(TOWN);
        int[] due = {2, 3, 2, 3, 2, 0, 1, 0, 0};
        for (int what = 0; what < due.length; what++) {
            CHECKS.due("6: has(" + what + ")", x.has(what), due[what]);
        }
        CHECKS.due("6: has(9)", x.has(9), NONE);
        CHECKS.due("6: has(-1)", x.has(-1), NONE);
        Checks.see(x, 0, 0, 0, 80, 0, 0, 1, 80);
        CHECKS.due("6: seen", x.has(7), 2);
        x.go(7);
        CHECKS.due("6: hour", x.has(5), 7);
        CHECKS.due("6: ann sings, bob riots", x.has(6), 2);
        x.calm(0, 0, 5);
        CHECKS.due("6: acts", x.has(8), 2);
    }

    private static void p7Letter() {
        MoodBread x = Checks.townOf(TOWN + "deed abcxyz when all;");
        CHECKS.due("7: j of joy", x.letter(0, 0, 0), 10);
        CHECKS.due("7: e of ire", x.letter(0, 1, 2), 5);
        CHECKS.due("7: behind ire", x.letter(0, 1, 3), 0);
        CHECKS.due("7: behind ire", x.letter(0, 1, 5), 0);
        CHECKS.due("7: b of bob", x.letter(1, 1, 2), 2);
        CHECKS.due("7: u of bun", x.letter(2, 1, 1), 21);
        CHECKS.due("7: z of abcxyz", x.letter(3, 2, 5), 26);
        CHECKS.due("7: a of abcxyz", x.letter(3, 2, 0), 1);
        int[][] wrong = {{0, 0, 6}, {0, 0, -1}, {0, 2, 0}, {0, -1, 0}, {1, 3, 0}, {2, 2, 0}, {3, 3, 0}, {4, 0, 0}, {-1, 0, 0}};
        for (int[] w : wrong) {
            CHECKS.due("7: none such", x.letter(w[0], w[1], w[2]), NONE);
        }
    }

    private static void p8Feels() {
        MoodBread x = Checks.townOf(TOWN);
        x.go(8);
        CHECKS.due("8: cid, (50 + 50) / 2", x.feels(2, 0, 0), 50);
        CHECKS.due("8: cid, (0 + 35) / 2", x.feels(2, 1, 0), 17);
        CHECKS.due("8: ann, (80 + 25) / 2", x.feels(0, 0, 0), 52);
        CHECKS.due("8: ann by nature", x.feels(0, 0, 1), 80);
        CHECKS.due("8: bob by nature", x.feels(1, 1, 1), 60);
        CHECKS.due("8: nobody", x.feels(3, 0, 0), NONE);
        CHECKS.due("8: nobody", x.feels(-1, 0, 0), NONE);
        CHECKS.due("8: no mood", x.feels(0, 2, 0), NONE);
        CHECKS.due("8: no mood", x.feels(0, -1, 1), NONE);
        CHECKS.due("8: others", x.feels(0, 0, 2), NONE);
        CHECKS.due("8: others", x.feels(0, 0, -1), NONE);
        x.go(10);
        CHECKS.due("8: by nature in the evening", x.feels(0, 0, 0), 80);
        MoodBread y = Checks.townOf("mood a;mood b;person p is 50 50;person q is 0 0;loaf l leaven 0 by p;"
            + "eats p l at 6;eats p l at 6;eats q l at 6;turn now + bread * 2 * which - own * (1 - which) * 2 + clock - day * 9;");
        y.go(6);
        CHECKS.due("8: below 0", y.feels(0, 0, 0), 0);
        CHECKS.due("8: above 99", y.feels(0, 1, 0), 99);
        CHECKS.due("8: the clock", y.feels(1, 0, 0), 6);
        y.go(24);
        CHECKS.due("8: the day", y.feels(1, 0, 0), 0);
        MoodBread plain = Checks.townOf("mood a;person p is 50;person q is 30;loaf l leaven 0 by q;eats p l at 6;");
        CHECKS.due("8: without turn", plain.later(0, 0, 6), 30);
        MoodBread night = Checks.townOf("mood a;mood b;person p is 50 60;loaf l leaven 0 by p;night own / 2 + now / 2 * which + bread;");
        night.go(5);
        night.calm(0, 1, 20);
        night.go(13);
        CHECKS.due("8: night", night.feels(0, 0, 0), 25);
        CHECKS.due("8: night, 20 / 2 + 60 / 2", night.feels(0, 1, 0), 40);
        CHECKS.due("8: then as by nature", night.feels(0, 1, 1), 40);
    }

    private static void p9Bread() {
        MoodBread x = Checks.townOf(TOWN);
        CHECKS.due("9: at first", x.bread(0, 0), 0);
        x.go(5);
        CHECKS.due("9: rye, (80 + 20) / 2", x.bread(0, 0), 50);
        CHECKS.due("9: bun, 50 / 2", x.bread(1, 0), 25);
        x.go(24);
        CHECKS.due("9: bun, (50 + 25) / 2", x.bread(1, 0), 37);
        CHECKS.due("9: no loaf", x.bread(2, 0), NONE);
        CHECKS.due("9: no loaf", x.bread(-1, 0), NONE);
        CHECKS.due("9: no mood", x.bread(0, 2), NONE);
        CHECKS.due("9: no mood", x.bread(0, -1), NONE);
        MoodBread y = Checks.townOf("mood m;person a is 99;person b is 98;person c is 99;loaf l leaven 33 by a b c;");
        y.go(5);
        CHECKS.due("9: 67 * 296 / 300", y.bread(0, 0), 66);
        y.go(24);
        CHECKS.due("9: (67 * 296 + 33 * 3 * 66) / 300", y.bread(0, 0), 87);
        MoodBread all = Checks.townOf("mood m;person a is 99;loaf l leaven 100 by a;");
        all.go(29);
        CHECKS.due("9: all of it kept", all.bread(0, 0), 0);
    }

    private static void p10Loaf() {
        MoodBread x = Checks.townOf(TOWN);
        int[][] due = {{0, 3, 2}, {50, 4, 1}};
        for (int loaf = 0; loaf < 2; loaf++) {
            for (int what = 0; what < 3; what++) {
                CHECKS.due("10: loaf", x.loaf(loaf, what), due[loaf][what]);
            }
        }
        x.knead(0, 4);
        CHECKS.due("10: others knead", x.loaf(0, 1), 4);
        CHECKS.due("10: others", x.loaf(0, 3), NONE);
        CHECKS.due("10: others", x.loaf(0, -1), NONE);
        CHECKS.due("10: no loaf", x.loaf(2, 0), NONE);
        CHECKS.due("10: no loaf", x.loaf(-1, 0), NONE);
    }

    private static void test(String text, int due) {
        MoodBread x = Checks.townOf("mood a;mood b;person p is 9 40;deed d when " + text + ";");
        CHECKS.due("I: " + text, x.does(0, 0), due);
    }

    private static void p11Does() {
        test("all", 1);
        test("not all", 0);
        test("not not all", 1);
        test("1 < 2", 1);
        test("2 < 2", 0);
        test("2 > 1", 1);
        test("2 > 2", 0);
        test("2 = 2", 1);
        test("2 = 1", 0);
        test("all or all and not all", 1);
        test("[all or all] and not all", 0);
        test("not all and all or all", 1);
        test("not all or all", 1);
        test("not [all or all]", 0);
        test("clock = 0 and day = 0", 1);
        test("feel 0 = 9 and feel 1 = 40 and feel 2 = 0", 1);
        test("nature 0 = 9 and nature 1 = 40 and nature 4 = 0", 1);
        test("feel (0 - 1) = 0", 1);
        test("feel nature 0 = 0 and feel feel 2 = 9", 1);
        MoodBread x = Checks.townOf(TOWN);
        CHECKS.due("11: ann sings", x.does(0, 0), 1);
        CHECKS.due("11: bob riots not at 0", x.does(1, 1), 0);
        x.go(7);
        CHECKS.due("11: bob riots at 7", x.does(1, 1), 1);
        x.calm(0, 0, 0);
        CHECKS.due("11: what one is stays", x.does(0, 0), 1);
        CHECKS.due("11: nobody", x.does(3, 0), NONE);
        CHECKS.due("11: nobody", x.does(-1, 0), NONE);
        CHECKS.due("11: no deed", x.does(0, 2), NONE);
        CHECKS.due("11: no deed", x.does(0, -1), NONE);
    }

    private static void p12Later() {
        MoodBread x = Checks.townOf(TOWN);
        CHECKS.due("12: now", x.later(0, 0, 0), 80);
        CHECKS.due("12: ahead of the meal", x.later(0, 0, 7), 80);
        CHECKS.due("12: behind the meal", x.later(0, 0, 8), 52);
        CHECKS.due("12: all stays", x.has(5), 0);
        CHECKS.due("12: all stays", x.feels(0, 0, 0), 80);
        CHECKS.due("12: the next day", x.later(1, 1, 32), 47);
        int far = x.later(2, 1, 200);
        x.go(200);
        CHECKS.due("12: as it comes", x.feels(2, 1, 0), far);
        CHECKS.due("12: 201", x.later(0, 0, 201), NONE);
        CHECKS.due("12: -1", x.later(0, 0, -1), NONE);
        CHECKS.due("12: nobody", x.later(3, 0, 0), NONE);
        CHECKS.due("12: no mood", x.later(0, 2, 0), NONE);
        toHour(x, 9990);
        CHECKS.due("12: to 9999", x.later(0, 0, 9) != NONE, true);
        CHECKS.due("12: beyond 9999", x.later(0, 0, 10), NONE);
    }

    private static void toHour(MoodBread x, int hour) {
        while (x.has(5) < hour) {
            x.go(Math.min(500, hour - x.has(5)));
        }
    }

    private static void p13First() {
        MoodBread x = Checks.townOf("mood a;person p is 10;person q is 20;"
            + "deed c when clock = 3 and feel 0 = 20;deed d when clock = 3 and day = 1;deed e when clock = 3;");
        CHECKS.due("13: in 3 hours", x.first(0), 3);
        CHECKS.due("13: people ahead of deeds", x.first(1), 0);
        CHECKS.due("13: the third deed", x.first(2), 2);
        x.go(3);
        CHECKS.due("13: now", x.first(0), 0);
        x.go(1);
        CHECKS.due("13: tomorrow", x.first(0), 23);
        CHECKS.due("13: tomorrow", x.first(2), 1);
        CHECKS.due("13: others", x.first(3), NONE);
        CHECKS.due("13: others", x.first(-1), NONE);
        MoodBread late = Checks.townOf("person p is;deed d when clock = 8 and day = 8;");
        CHECKS.due("13: 200 ahead", late.first(0), 200);
        MoodBread later = Checks.townOf("person p is;deed d when clock = 9 and day = 8;");
        CHECKS.due("13: 201 ahead", later.first(0), NONE);
        CHECKS.due("13: 201 ahead", later.first(1), NONE);
        toHour(late, 9999);
        CHECKS.due("13: at the end", late.first(0), NONE);
        CHECKS.due("13: nobody", Checks.townOf("deed d when all;").first(0), NONE);
    }

    private static void p14Often() {
        MoodBread x = Checks.townOf(TOWN);
        CHECKS.due("14: bob riots", x.often(1, 1, 24), 17);
        CHECKS.due("14: ann sings 0 to 7, 18 to 23", x.often(0, 0, 24), 14);
        CHECKS.due("14: now alone", x.often(0, 0, 1), 1);
        CHECKS.due("14: 0", x.often(0, 0, 0), NONE);
        CHECKS.due("14: 201", x.often(0, 0, 201), NONE);
        CHECKS.due("14: nobody", x.often(3, 0, 1), NONE);
        CHECKS.due("14: no deed", x.often(0, 2, 1), NONE);
        MoodBread all = Checks.townOf("person p is;deed d when all;");
        CHECKS.due("14: 200", all.often(0, 0, 200), 200);
        toHour(all, 9990);
        CHECKS.due("14: as many as there are", all.often(0, 0, 200), 10);
        toHour(all, 9999);
        CHECKS.due("14: the last hour", all.often(0, 0, 200), 1);
    }

    private static void p15Again() {
        MoodBread x = Checks.townOf("mood m;person p is 40;loaf l leaven 0 by p;night 99 - own;turn now;");
        CHECKS.due("15: k", x.again(0), 3);
        CHECKS.due("15: days since", x.again(1), 2);
        CHECKS.due("15: others", x.again(2), NONE);
        CHECKS.due("15: others", x.again(-1), NONE);
        MoodBread growing = Checks.townOf("mood m;person p is 40;night own + 1;");
        CHECKS.due("15: nothing again", growing.again(0), NONE);
        CHECKS.due("15: nothing again", growing.again(1), NONE);
        MoodBread eight = Checks.townOf("mood m;person p is 93;night own + 1;");
        CHECKS.due("15: 99 from the sixth day on", eight.again(0), 7);
        CHECKS.due("15: since one day", eight.again(1), 1);
        MoodBread nine = Checks.townOf("mood m;person p is 92;night own + 1;");
        CHECKS.due("15: k 8", nine.again(0), 8);
        MoodBread ten = Checks.townOf("mood m;person p is 91;night own + 1;");
        CHECKS.due("15: k 9", ten.again(0), NONE);
        toHour(nine, 9999);
        CHECKS.due("15: no hours ahead", nine.again(0), NONE);
        MoodBread end = Checks.townOf("mood m;person p is 92;");
        toHour(end, 9975);
        CHECKS.due("15: just a day ahead", end.again(0), 1);
        toHour(end, 9976);
        CHECKS.due("15: less than a day ahead", end.again(0), NONE);
        CHECKS.due("15: nobody", new MoodBread().again(0), 1);
        MoodBread leaven = Checks.townOf("mood m;person p is 40;loaf l leaven 50 by p;");
        CHECKS.due("15: loaves count, 20 30 35 37 38 39 39", leaven.again(0), 7);
    }

    private static void p16Hands() {
        MoodBread x = Checks.townOf(TOWN);
        // Cid's ire is (0 + the loaf's) / 2 at 7
        CHECKS.due("16: bob", x.hands(0, 2, 1, 7, 30, 0), 2);
        CHECKS.due("16: what he is", x.hands(0, 2, 1, 7, 30, 1), 30);
        CHECKS.due("16: ann and bob", x.hands(0, 2, 1, 7, 17, 0), 3);
        CHECKS.due("16: of like ones the fewest, the least", x.hands(0, 2, 0, 3, 50, 0), 1);
        CHECKS.due("16: number 100", x.hands(0, 2, 0, 3, 100, 0), NONE);
        CHECKS.due("16: number -1", x.hands(0, 2, 0, 3, -1, 0), NONE);
        CHECKS.due("16: no loaf", x.hands(2, 2, 0, 3, 50, 0), NONE);
        CHECKS.due("16: nobody", x.hands(0, 3, 0, 3, 50, 0), NONE);
        CHECKS.due("16: no mood", x.hands(0, 2, 2, 3, 50, 0), NONE);
        CHECKS.due("16: n -1", x.hands(0, 2, 0, -1, 50, 0), NONE);
        CHECKS.due("16: n 201", x.hands(0, 2, 0, 201, 50, 0), NONE);
        CHECKS.due("16: others", x.hands(0, 2, 0, 3, 50, 2), NONE);
        CHECKS.due("16: others", x.hands(0, 2, 0, 3, 50, -1), NONE);
        CHECKS.due("16: who kneads stays", x.loaf(0, 1), 3);
        toHour(x, 9998);
        CHECKS.due("16: to 9999", x.hands(0, 2, 0, 1, 50, 0), 1);
        CHECKS.due("16: beyond 9999", x.hands(0, 2, 0, 2, 50, 0), NONE);
        MoodBread y = Checks.townOf("mood m;person a is 0;person b is 10;person c is 20;person d is 30;person e is 90;"
            + "loaf l leaven 0 by a;eats e l at 6;");
        CHECKS.due("16: c rather than b and d", y.hands(0, 4, 0, 6, 20, 0), 4);
        CHECKS.due("16: a and b rather than c and e off alike", y.hands(0, 4, 0, 6, 5, 0), 3);
        CHECKS.due("16: three: 10 30 90", y.hands(0, 4, 0, 6, 43, 0), 26);
        CHECKS.due("16: three: 10 30 90", y.hands(0, 4, 0, 6, 43, 1), 43);
        MoodBread z = Checks.townOf("mood m;person a is 0;person b is 40;person c is 20;loaf l leaven 0 by a;eats a l at 6;");
        CHECKS.due("16: c rather than a and b, though their bits are less", z.hands(0, 0, 0, 6, 20, 0), 4);
        CHECKS.due("16: below and above alike, the least bits", y.hands(0, 4, 0, 6, 1, 0), 1);
    }

    private static void p17Blend() {
        MoodBread x = Checks.townOf("mood m;mood n;person a is 20 50;person b is 50 50;loaf k leaven 0 by a;loaf l leaven 0 by b;");
        x.go(5);
        CHECKS.due("17: (20 + 50) / 2", x.blend(0, 1, 0, 35, 0), 11);
        CHECKS.due("17: just", x.blend(0, 1, 0, 35, 1), 1);
        CHECKS.due("17: (2 * 20 + 50) / 3", x.blend(0, 1, 0, 30, 0), 21);
        CHECKS.due("17: the other way", x.blend(1, 0, 0, 30, 0), 12);
        CHECKS.due("17: all above", x.blend(0, 1, 0, 0, 0), 91);
        CHECKS.due("17: not just", x.blend(0, 1, 0, 0, 1), 0);
        CHECKS.due("17: all below", x.blend(0, 1, 0, 99, 0), 19);
        CHECKS.due("17: of like ones the least", x.blend(0, 1, 1, 50, 0), 11);
        CHECKS.due("17: 36, (7 * 20 + 8 * 50) / 15", x.blend(0, 1, 0, 36, 0), 78);
        CHECKS.due("17: 36", x.blend(0, 1, 0, 36, 1), 1);
        CHECKS.due("17: one loaf", x.blend(0, 0, 0, 30, 0), NONE);
        CHECKS.due("17: no loaf", x.blend(0, 2, 0, 30, 0), NONE);
        CHECKS.due("17: no loaf", x.blend(-1, 1, 0, 30, 0), NONE);
        CHECKS.due("17: no mood", x.blend(0, 1, 2, 30, 0), NONE);
        CHECKS.due("17: number", x.blend(0, 1, 0, 100, 0), NONE);
        CHECKS.due("17: number", x.blend(0, 1, 0, -1, 0), NONE);
        CHECKS.due("17: others", x.blend(0, 1, 0, 30, 2), NONE);
        CHECKS.due("17: others", x.blend(0, 1, 0, 30, -1), NONE);
    }

    private static void p18Left() {
        MoodBread x = Checks.townOf("mood m;person a is 1;person b is 1;person c is 1;person d is 1;"
            + "loaf k leaven 50 by a;loaf l leaven 0 by a b;loaf n leaven 33 by a b c;loaf o leaven 100 by d;");
        int[] halves = {0, 500, 750, 875, 937, 968, 984};
        for (int n = 0; n <= 6; n++) {
            CHECKS.due("18: halves", x.left(0, 0, n), halves[n]);
            CHECKS.due("18: he kneads not", x.left(0, 1, n), 0);
            CHECKS.due("18: two", x.left(1, 1, n), n == 0 ? 0 : 500);
            CHECKS.due("18: all is kept", x.left(3, 3, n), 0);
        }
        CHECKS.due("18: 670 / 3", x.left(2, 2, 1), 223);
        CHECKS.due("18: 891.1 / 3", x.left(2, 2, 2), 297);
        CHECKS.due("18: almost a third", x.left(2, 2, 6), 332);
        CHECKS.due("18: n 7", x.left(0, 0, 7), NONE);
        CHECKS.due("18: n -1", x.left(0, 0, -1), NONE);
        CHECKS.due("18: no loaf", x.left(4, 0, 1), NONE);
        CHECKS.due("18: nobody", x.left(0, 4, 1), NONE);
        x.go(30);
        CHECKS.due("18: from now on", x.left(0, 0, 1), 500);
        x.knead(0, 14);
        CHECKS.due("18: others knead", x.left(0, 0, 1), 0);
        CHECKS.due("18: others knead", x.left(0, 1, 1), 166);
    }

    private static void p19Votes() {
        MoodBread x = Checks.townOf("mood m;mood n;person a is 10 10;person b is 90 90;person c is 50 50;person d is 10 80;person e is 85 90;"
            + "person f is 70 70;loaf k leaven 0 by a;loaf l leaven 0 by b;");
        CHECKS.due("19: at first all like", x.votes(0, 1, 2), 63);
        x.go(5);
        CHECKS.due("19: for the first, d by 70 against 90", x.votes(0, 1, 0), 2);
        CHECKS.due("19: for the second", x.votes(0, 1, 1), 3);
        CHECKS.due("19: for neither", x.votes(0, 1, 2), 4);
        CHECKS.due("19: the other way", x.votes(1, 0, 0), 3);
        CHECKS.due("19: one loaf", x.votes(0, 0, 0), NONE);
        CHECKS.due("19: no loaf", x.votes(0, 2, 0), NONE);
        CHECKS.due("19: no loaf", x.votes(-1, 0, 0), NONE);
        CHECKS.due("19: others", x.votes(0, 1, 3), NONE);
        CHECKS.due("19: others", x.votes(0, 1, -1), NONE);
    }

    private static void p20Go() {
        MoodBread x = Checks.townOf(TOWN);
        CHECKS.due("20: go(0)", x.go(0), NONE);
        CHECKS.due("20: go(-1)", x.go(-1), NONE);
        CHECKS.due("20: go(501)", x.go(501), NONE);
        CHECKS.due("20: go(max)", x.go(Integer.MAX_VALUE), NONE);
        CHECKS.due("20: refused", x.status(2), 4);
        CHECKS.due("20: no act", x.has(8), 0);
        CHECKS.due("20: go(1)", x.go(1), 1);
        CHECKS.due("20: go(500)", x.go(500), 501);
        toHour(x, 9998);
        CHECKS.due("20: beyond 9999", x.go(2), NONE);
        CHECKS.due("20: to 9999", x.go(1), 9999);
        CHECKS.due("20: beyond 9999", x.go(1), NONE);
    }

    private static void p21Knead() {
        MoodBread x = Checks.townOf(TOWN + "loaf pie leaven 0 by ann;");
        CHECKS.due("21: who did", x.knead(0, 5), 3);
        CHECKS.due("21: who did", x.knead(0, 7), 5);
        CHECKS.due("21: the same", x.knead(0, 7), 7);
        CHECKS.due("21: acts", x.has(8), 3);
        CHECKS.due("21: nobody", x.knead(0, 0), NONE);
        CHECKS.due("21: none such", x.knead(0, 8), NONE);
        CHECKS.due("21: below 0", x.knead(0, -1), NONE);
        CHECKS.due("21: the highest bit", x.knead(0, Integer.MIN_VALUE | 1), NONE);
        CHECKS.due("21: no loaf", x.knead(3, 1), NONE);
        CHECKS.due("21: no loaf", x.knead(-1, 1), NONE);
        CHECKS.due("21: refused", x.status(2), 6);
        CHECKS.due("21: no act", x.has(8), 3);
        x.go(5);
        CHECKS.due("21: (80 + 20 + 50) / 3", x.bread(0, 0), 50);
        CHECKS.due("21: the others stay", x.bread(2, 0), 80);
        MoodBread four = Checks.townOf("person a is;person b is;person c is;person d is;loaf l leaven 0 by a;");
        CHECKS.due("21: four", four.knead(0, 15), NONE);
        CHECKS.due("21: three of four", four.knead(0, 14), 1);
    }

    private static void p22Calm() {
        MoodBread x = Checks.townOf(TOWN);
        CHECKS.due("22: what it was", x.calm(0, 1, 99), 10);
        CHECKS.due("22: what it was", x.calm(0, 1, 0), 99);
        CHECKS.due("22: nature", x.feels(0, 1, 1), 0);
        CHECKS.due("22: what one is stays", x.feels(0, 1, 0), 10);
        CHECKS.due("22: acts", x.has(8), 2);
        CHECKS.due("22: n 100", x.calm(0, 1, 100), NONE);
        CHECKS.due("22: n -1", x.calm(0, 1, -1), NONE);
        CHECKS.due("22: nobody", x.calm(3, 1, 5), NONE);
        CHECKS.due("22: no mood", x.calm(0, 2, 5), NONE);
        CHECKS.due("22: refused", x.status(2), 4);
        CHECKS.due("22: in the evening", x.later(0, 1, 18), 0);
    }

    private static void p23Days() {
        String town = "mood m;mood n;person p is 50 50;person q is 50 50;person r is 50 99;whim 7;";
        MoodBread x = Checks.townOf(town);
        CHECKS.due("23: days(0)", x.days(0), NONE);
        CHECKS.due("23: days(21)", x.days(21), NONE);
        CHECKS.due("23: days(-1)", x.days(-1), NONE);
        CHECKS.due("23: refused", x.status(2), 3);
        int[][] natures = {{50, 50}, {50, 50}, {50, 99}};
        long drawn = 1;
        for (int day = 1; day <= 60; day++) {
            int[] draws = new int[3];
            for (int i = 0; i < 3; i++) {
                drawn = (1103515245L * drawn + 12345) % 2147483648L;
                draws[i] = (int) (drawn / 64 % new int[] {3, 2, 3}[i]);
            }
            int more = draws[2] == 2 ? 7 : draws[2] == 1 ? 0 : -7;
            int[] of = natures[draws[0]];
            of[draws[1]] = Math.max(0, Math.min(99, of[draws[1]] + more));
        }
        CHECKS.due("23: days(20)", x.days(20), 480);
        x.days(19);
        x.days(1);
        CHECKS.due("23: days(20)", x.days(20), 1440);
        for (int person = 0; person < 3; person++) {
            for (int mood = 0; mood < 2; mood++) {
                CHECKS.due("23: by whim", x.feels(person, mood, 1), natures[person][mood]);
                CHECKS.due("23: by whim, in the evening", x.feels(person, mood, 0), natures[person][mood]);
            }
        }
        toHour(x, 9976);
        CHECKS.due("23: beyond 9999", x.days(1), NONE);
        MoodBread y = Checks.townOf(town);
        toHour(y, 9999 - 48);
        CHECKS.due("23: beyond 9999", y.days(3), NONE);
        CHECKS.due("23: to 9999", y.days(2), 9999);
        MoodBread nobody = new MoodBread();
        CHECKS.due("23: nobody", nobody.days(3), 72);
        Checks.town(nobody, town);
        nobody.days(1);
        MoodBread fresh = Checks.townOf(town);
        fresh.days(1);
        CHECKS.due("23: no draws without people", Checks.image(nobody).equals(Checks.image(fresh)), true);
    }

    private static void p24Undo() {
        MoodBread x = Checks.townOf(TOWN);
        CHECKS.due("24: none", x.undo(), false);
        CHECKS.due("24: refused", x.status(3), 1);
        String[] images = new String[26];
        for (int i = 0; i < 25; i++) {
            images[i] = Checks.image(x);
            switch (i % 4) {
                case 0: x.go(7 + i); break;
                case 1: x.knead(i % 2, 1 + i % 6); break;
                case 2: x.calm(i % 3, i % 2, i); break;
                default: x.days(1);
            }
        }
        CHECKS.due("24: 20 acts", x.has(8), 20);
        for (int i = 24; i >= 5; i--) {
            CHECKS.due("24: undo", x.undo(), true);
            CHECKS.due("24: as it was", Checks.image(x).equals(images[i]), true);
        }
        CHECKS.due("24: no more", x.undo(), false);
        CHECKS.due("24: refused", x.status(3), 2);
        MoodBread y = Checks.townOf("mood m;person p is 50;whim 10;");
        MoodBread z = Checks.townOf("mood m;person p is 50;whim 10;");
        for (int i = 0; i < 6; i++) {
            y.days(1);
            y.undo();
            z.days(1);
        }
        y.days(1);
        int nature = z.feels(0, 0, 1);
        z.days(1);
        CHECKS.due("24: the seed stays", y.feels(0, 0, 1) - 50, z.feels(0, 0, 1) - nature);
        Checks.see(x, 0, 0, 0, 1);
        x.go(1);
        x.undo();
        CHECKS.due("24: what is seen stays", x.has(7), 1);
    }

    private static void p25Seed() {
        MoodBread x = Checks.townOf("mood m;person p is 50;whim 10;");
        CHECKS.due("25: below 0", x.seed(-1), false);
        CHECKS.due("25: below 0", x.seed(Integer.MIN_VALUE), false);
        CHECKS.due("25: refused", x.status(4), 2);
        MoodBread y = Checks.townOf("mood m;person p is 50;whim 10;");
        CHECKS.due("25: 1 at first", y.seed(1), true);
        x.days(10);
        y.days(10);
        CHECKS.due("25: 1 at first", x.feels(0, 0, 1), y.feels(0, 0, 1));
        int[] seeds = {0, 5, 99, Integer.MAX_VALUE};
        for (int seed : seeds) {
            CHECKS.due("25: seed", x.seed(seed), true);
            long drawn = (1103515245L * seed + 12345) % 2147483648L;
            drawn = (1103515245L * drawn + 12345) % 2147483648L;
            drawn = (1103515245L * drawn + 12345) % 2147483648L;
            x.calm(0, 0, 50);
            x.days(1);
            CHECKS.due("25: by the seed", x.feels(0, 0, 1), 40 + 10 * (drawn / 64 % 3));
        }
        CHECKS.due("25: no act", Checks.townOf("").has(8), 0);
    }

    private static void p26See() {
        MoodBread x = Checks.townOf(TOWN);
        CHECKS.due("26: nothing", Checks.see(x), NONE);
        CHECKS.due("26: a row", Checks.see(x, 2, 1, 200, 99), 1);
        int[] most = new int[84];
        CHECKS.due("26: 21 rows", Checks.see(x, most), NONE);
        CHECKS.due("26: all stays", x.has(7), 1);
        CHECKS.due("26: 20 rows", Checks.see(x, java.util.Arrays.copyOf(most, 80)), 20);
        int[][] wrong = {{3, 1, 7, 7}, {2, 2, 7, 7}, {2, 1, 201, 7}, {2, 1, 7, 100}, {255, 1, 7, 7}, {2, 1, 7}, {2, 1, 7, 7, 7},
            {2, 1, 7, 7, 3, 1, 7, 7}};
        for (int[] w : wrong) {
            CHECKS.due("26: none such", Checks.see(x, w), NONE);
            CHECKS.due("26: the tape goes", x.feed(0, 0, 0, 0, 0), 20);
        }
        CHECKS.due("26: all stays", x.has(7), 20);
        CHECKS.due("26: refused", x.status(1), 2 + wrong.length);
        toHour(x, 9999);
        CHECKS.due("26: whatever the hour is", Checks.see(x, 2, 1, 200, 99), 1);
        CHECKS.due("26: nobody", Checks.see(new MoodBread(), 0, 0, 0, 0), NONE);
    }

    private static void p27Kneaders() {
        MoodBread x = Checks.townOf(TOWN);
        kneaders(x, 0, 7, 0, 7, 1);
        Checks.see(x, 2, 1, 7, 30);
        kneaders(x, 0, 1, 2, 2, 2);
        kneaders(x, 1, 0, 0, 0, NONE);
        Checks.see(x, 2, 0, 7, 50);
        kneaders(x, 0, 3, 0, 7, 3);
        Checks.see(x, 2, 0, 7, 50, 2, 1, 7, 0);
        kneaders(x, 0, 1, 4, 4, 4);
        Checks.see(x, 2, 0, 0, 51);
        kneaders(x, 0, 0, 0, 0, NONE);
        CHECKS.due("27: no loaf", x.kneaders(2, 0), NONE);
        CHECKS.due("27: no loaf", x.kneaders(-1, 0), NONE);
        CHECKS.due("27: others", x.kneaders(0, 4), NONE);
        CHECKS.due("27: others", x.kneaders(0, -1), NONE);
        Checks.see(x, 2, 1, 2, 30);
        x.go(5);
        kneaders(x, 0, 0, 0, 0, NONE);
        x.undo();
        x.knead(0, 2);
        x.go(5);
        kneaders(x, 0, 7, 0, 7, 1);
        toHour(x, 9999);
        Checks.see(x, 2, 1, 1, x.feels(2, 1, 0));
        kneaders(x, 0, 0, 0, 0, NONE);
        Checks.see(x, 2, 1, 0, x.feels(2, 1, 0));
        kneaders(x, 0, 7, 0, 7, 1);
        MoodBread eight = Checks.townOf("person a is;person b is;person c is;person d is;person e is;person f is;person g is;person h is;"
            + "loaf l leaven 0 by a;");
        kneaders(eight, 0, 92, 0, 255, 1);
    }

    private static void kneaders(MoodBread x, int loaf, int... due) {
        for (int what = 0; what < due.length; what++) {
            CHECKS.due("27: kneaders(" + loaf + ", " + what + ")", x.kneaders(loaf, what), due[what]);
        }
    }

    private static void p28Look() {
        MoodBread x = Checks.townOf(TOWN);
        look(x, 0, 3, 0, 0, 7);
        // By rye Cid's ire at 7 is 5 30 17 0 2 15 11: all unlike
        look(x, 0, 7, 2, 1, 1);
        // By bun at 8 Ann's joy is 60 45 52 52 56 48 52, her ire 7 20 13 5 6 12 10
        look(x, 1, 8, 0, 1, 1);
        Checks.see(x, 2, 1, 7, 31);
        look(x, 0, 7, NONE, NONE, NONE);
        Checks.see(x, 2, 0, 7, 50);
        look(x, 0, 7, 2, 1, 1);
        look(x, 0, 6, 0, 0, 3);
        CHECKS.due("28: others", x.look(0, 7, 3), NONE);
        CHECKS.due("28: others", x.look(0, 7, -1), NONE);
        CHECKS.due("28: no loaf", x.look(2, 7, 0), NONE);
        CHECKS.due("28: n 201", x.look(0, 201, 0), NONE);
        CHECKS.due("28: n -1", x.look(0, -1, 0), NONE);
        Checks.see(x, 0, 0, 0, 80);
        toHour(x, 9998);
        Checks.see(x, 0, 0, 0, x.feels(0, 0, 0));
        CHECKS.due("28: to 9999", x.look(0, 1, 0), 0);
        CHECKS.due("28: beyond 9999", x.look(0, 2, 0), NONE);
        CHECKS.due("28: no mood", Checks.townOf("person p is;loaf l leaven 0 by p;").look(0, 1, 0), NONE);
    }

    private static void look(MoodBread x, int loaf, int n, int... due) {
        for (int what = 0; what < due.length; what++) {
            CHECKS.due("28: look(" + loaf + ", " + n + ", " + what + ")", x.look(loaf, n, what), due[what]);
        }
    }

    private static void question(MoodBread x, int person, String text, long due) {
        CHECKS.due("29: " + text, Checks.ask(x, person, text), due);
        CHECKS.due("29: the tape goes", x.feed(0, 0, 0, 0, 0), 20);
    }

    private static void p29Ask() {
        MoodBread x = Checks.townOf(TOWN);
        question(x, 0, "first feel 0 < 60", 8);
        question(x, 0, "last feel 0 < 60", 41);
        question(x, 0, "often all", 73);
        question(x, 0, "last all", 72);
        question(x, 0, "first all", 0);
        question(x, 0, "first not all", NONE);
        question(x, 0, "last not all", NONE);
        question(x, 0, "often not all", 0);
        question(x, 0, "total hour", 72 * 73 / 2);
        question(x, 0, "total 9999 * 9999", 73000000);
        question(x, 0, "total 0 - 9999 * 9999", -73000000);
        question(x, 0, "most 0 - hour - 5", -5);
        question(x, 0, "least 5 - hour", -67);
        question(x, 0, "least hour + 5", 5);
        question(x, 0, "most clock", 23);
        question(x, 0, "most day", 3);
        question(x, 1, "often does 1 = 1", 17 * 3);
        question(x, 0, "often does 0 = 1 and day < 1", 14);
        question(x, 0, "total does 2 + does (0 - 1)", 0);
        question(x, 1, "first nature 1 > 60 or feel 1 < 60", 8);
        x.go(100);
        question(x, 0, "first all", 100);
        question(x, 0, "last all", 172);
        question(x, 0, "often all", 73);
        CHECKS.due("29: all stays", x.has(5), 100);
        question(x, 0, "first all;", MoodBread.NOTHING);
        CHECKS.due("29: its fault", x.fault(0), 1);
        question(x, 3, "first all", MoodBread.NOTHING);
        question(x, -1, "first all", MoodBread.NOTHING);
        CHECKS.due("29: fault stays", x.fault(1), 9);
        CHECKS.due("29: none refused", x.status(1), 0);
        toHour(x, 9990);
        question(x, 0, "often all", 10);
        question(x, 0, "last all", 9999);
    }

    private static void p30Image() {
        MoodBread x = Checks.townOf(TOWN);
        CHECKS.due("30: bytes", x.image(), 2 + 12 + 6 + 1);
        x.go(300);
        x.calm(1, 0, 33);
        int size = x.image();
        int[] due = new int[size];
        int at = 2;
        due[0] = 1;
        due[1] = 44;
        for (int person = 0; person < 3; person++) {
            for (int mood = 0; mood < 2; mood++) {
                due[at++] = x.feels(person, mood, 1);
                due[at++] = x.feels(person, mood, 0);
            }
        }
        for (int loaf = 0; loaf < 2; loaf++) {
            due[at++] = x.loaf(loaf, 1);
            due[at++] = x.bread(loaf, 0);
            due[at++] = x.bread(loaf, 1);
        }
        int c = 193;
        for (int i = 0; i < at; i++) {
            c = (3 * c + due[i]) % 251;
        }
        due[at] = c;
        for (int k = 0; k < size; k++) {
            CHECKS.due("30: byte " + k, x.octet(k), due[k]);
        }
        CHECKS.due("30: of nobody", new MoodBread().image(), 3);
        CHECKS.due("30: no act", x.has(8), 2);
    }

    private static void p31Octet() {
        MoodBread x = new MoodBread();
        CHECKS.due("31: ahead of any", x.octet(0), NONE);
        x.image();
        CHECKS.due("31: -1", x.octet(-1), NONE);
        CHECKS.due("31: 2", x.octet(2), 231);
        CHECKS.due("31: 3", x.octet(3), NONE);
        x.go(7);
        CHECKS.due("31: the latest", x.octet(1), 0);
        Checks.town(x, TOWN);
        CHECKS.due("31: the latest", x.octet(3), NONE);
        x.image();
        CHECKS.due("31: the last", x.octet(20) != NONE, true);
        CHECKS.due("31: behind", x.octet(21), NONE);
    }

    private static String checked(String image) {
        int c = 193;
        for (int i = 0; i < image.length() - 1; i++) {
            c = (3 * c + image.charAt(i)) % 251;
        }
        return image.substring(0, image.length() - 1) + (char) c;
    }

    private static String with(String image, int at, int octet) {
        return checked(image.substring(0, at) + (char) octet + image.substring(at + 1));
    }

    private static void p32On() {
        MoodBread x = Checks.townOf(TOWN);
        x.go(300);
        x.calm(1, 0, 33);
        x.knead(1, 7);
        String image = Checks.image(x);
        MoodBread y = Checks.townOf(TOWN);
        y.go(1);
        Checks.see(y, 0, 0, 0, 5);
        CHECKS.due("32: on", Checks.on(y, image), true);
        CHECKS.due("32: the tape goes", y.feed(0, 0, 0, 0, 0), 20);
        CHECKS.due("32: as it tells", Checks.image(y).equals(image), true);
        CHECKS.due("32: nothing can be undone", y.undo(), false);
        CHECKS.due("32: seen stays", y.has(7), 1);
        x.go(77);
        y.go(77);
        CHECKS.due("32: it goes on", Checks.image(y).equals(Checks.image(x)), true);
        String now = Checks.image(y);
        String[] wrong = {"", image.substring(1), image + " ", image.substring(0, 20), image.substring(0, 20) + (char) ((image.charAt(20) + 1) % 251),
            with(image, 0, 40), with(image, 2, 100), with(image, 13, 100), with(image, 14, 0), with(image, 14, 8), with(image, 17, 255),
            with(image, 15, 100), with(image, 19, 200)};
        for (String w : wrong) {
            CHECKS.due("32: none", Checks.on(y, w), false);
            CHECKS.due("32: the tape goes", y.feed(0, 0, 0, 0, 0), 20);
            CHECKS.due("32: all stays", Checks.image(y).equals(now), true);
        }
        CHECKS.due("32: acts stay", y.has(8), 1);
        CHECKS.due("32: refused", y.status(5), wrong.length);
        String last = with(with(image, 0, 9999 / 256), 1, 9999 % 256);
        CHECKS.due("32: hour 10000", Checks.on(y, with(last, 1, 10000 % 256)), false);
        CHECKS.due("32: hour 9999", Checks.on(y, last), true);
        CHECKS.due("32: hour 9999", y.has(5), 9999);
        CHECKS.due("32: moods 99", Checks.on(y, with(with(image, 2, 99), 19, 99)), true);
        CHECKS.due("32: moods 99", y.feels(0, 0, 1), 99);
        CHECKS.due("32: moods 99", y.bread(1, 1), 99);
        MoodBread four = Checks.townOf("person a is;person b is;person c is;person d is;loaf l leaven 0 by a;");
        String few = Checks.image(four);
        CHECKS.due("32: four knead", Checks.on(four, with(few, 2, 15)), false);
        CHECKS.due("32: three knead", Checks.on(four, with(few, 2, 14)), true);
    }

    private static void p33Status() {
        MoodBread x = new MoodBread();
        x.end(1);
        x.end(-1);
        Checks.town(x, "x");
        x.see();
        x.see();
        x.go(0);
        x.knead(0, 1);
        x.calm(0, 0, 0);
        x.days(0);
        x.undo();
        x.seed(-1);
        x.seed(-2);
        x.on();
        int[] due = {2, 3, 4, 1, 2, 1};
        for (int what = 0; what < due.length; what++) {
            CHECKS.due("33: status(" + what + ")", x.status(what), due[what]);
        }
        CHECKS.due("33: others", x.status(6), NONE);
        CHECKS.due("33: others", x.status(-1), NONE);
        Checks.town(x, "");
        CHECKS.due("33: they stay", x.status(1), 3);
    }
}
