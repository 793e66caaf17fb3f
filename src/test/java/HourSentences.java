/** Parts II and III of the Terms: HOURS and ACTS at their edges; what is AHEAD, HANDS, BLENDS, LEFT, VOTES, SEEN, LOOK. */
final class HourSentences extends Sentences {
    private static final String P = "mood m;person p is 5;";
    private static final String L = P + "loaf l leaven 0 by p;";

    private HourSentences() {
    }

    // ---- II: an HOUR

    @Sentence(at = "II", says = "It is HOUR 0 at first, all are as they are by nature, LOAVES are 0 in each MOOD.")
    static void ii01_atFirst() {
        MoodBread x = townOf(TOWN + "bake 0;evening 0;eats ann rye at 0;night 7;");
        due("HOUR", x.has(5), 0);
        int[][] natures = {{80, 10}, {20, 60}, {50, 0}};
        for (int mood = 0; mood < 2; mood++) {
            for (int person = 0; person < 3; person++) {
                due("what one is", x.feels(person, mood, 0), natures[person][mood]);
                due("by nature", x.feels(person, mood, 1), natures[person][mood]);
            }
            due("rye", x.bread(0, mood), 0);
            due("bun", x.bread(1, mood), 0);
        }
    }

    @Sentence(at = "II", says = "AN HOUR comes (one more, 9999 at most):")
    static void ii02_hoursTo9999() {
        MoodBread x = townAt(L, 9998);
        due("one more", x.go(1), 9999);
        due("none more", x.go(1), NONE);
        due("it stays", x.has(5), 9999);
    }

    @Sentence(at = "II", says = "FIRST, if its clock is bake, LOAVES are baked, as they are told:")
    static void ii03_bakedFirst() {
        MoodBread x = townOf(L + "bake 6;eats p l at 6;evening 6;turn bread + 1;night now + 1;");
        due("ahead", x.later(0, 0, 5), 5);
        x.go(6);
        due("the bread is of him who has not eaten yet", x.bread(0, 0), 5);
        due("the meal is of the new bread, then comes the night", x.feels(0, 0, 1), 7);
        due("not at another clock", townAt(L + "bake 6;", 5).bread(0, 0), 0);
        x.go(23);
        due("not at another clock", x.bread(0, 0), 5);
        x.go(1);
        due("a day later", x.bread(0, 0), 7);
    }

    @Sentence(at = "II", says = "of each MOOD S is what all who knead it are now, together, n how many they are, old what the LOAF was:")
    static void ii04_whoKnead() {
        MoodBread x = townOf("mood a;mood b;person p is 1 2;person q is 3 4;loaf l leaven 50 by p q;");
        // what they are is other than what they are by nature
        due("on", Checks.on(x, imageOf(4, 90, 10, 90, 20, 90, 40, 90, 60, 3, 70, 80)), true);
        x.go(1);
        due("(50 * 50 + 100 * 70) / 200", x.bread(0, 0), 47);
        due("(50 * 80 + 100 * 80) / 200", x.bread(0, 1), 60);
        x.knead(0, 2);
        x.go(24);
        due("q alone is by nature, (50 * 90 + 50 * 47) / 100", x.bread(0, 0), 68);
    }

    @Sentence(at = "II", says = "floor(((100 - leaven) S + leaven n old) / (100 n)).")
    static void ii04_floor() {
        due("nothing is kept", baked(0, 77, 5), 5);
        due("all is kept", baked(100, 42, 99), 42);
        due("(99 + 98 + 99) / 3", baked(0, 0, 99, 98, 99), 98);
        due("(50 + 50) / 100, floored together", baked(50, 1, 1), 1);
        due("50 / 100", baked(50, 0, 1), 0);
        due("(4900 + 4950) / 100", baked(50, 99, 98), 98);
        due("(19832 + 6534) / 300", baked(33, 66, 99, 98, 99), 87);
        due("all 99", baked(1, 99, 99, 99, 99), 99);
        due("99 / 100", baked(99, 0, 99), 0);
        due("198 / 100", baked(99, 1, 99), 1);
        due("450 / 200", baked(50, 3, 1, 2), 2);
        due("29403 / 300", baked(99, 99, 0, 0, 0), 98);
    }

    /** What a LOAF becomes that was old, kneaded by those who are as told. */
    private static int baked(int leaven, int old, int... felt) {
        StringBuilder town = new StringBuilder("mood m;");
        StringBuilder loaf = new StringBuilder("loaf l leaven " + leaven + " by");
        int[] octets = new int[2 * felt.length + 2];
        for (int i = 0; i < felt.length; i++) {
            town.append("person p").append((char) ('a' + i)).append(" is 0;");
            loaf.append(" p").append((char) ('a' + i));
            octets[2 * i + 1] = felt[i];
        }
        octets[2 * felt.length] = (1 << felt.length) - 1;
        octets[2 * felt.length + 1] = old;
        MoodBread x = townOf(town + loaf.toString() + ";");
        due("on", Checks.on(x, imageOf(4, octets)), true);
        x.go(1);
        return x.bread(0, 0);
    }

    @Sentence(at = "II", says = "THEN MEALS of this clock, as they are told:")
    static void ii05_mealsAsTold() {
        String town = "mood m;person p is 10;person q is 20;person r is 30;loaf k leaven 0 by q;loaf l leaven 0 by r;";
        due("k, then l", townOf(town + "eats p k at 6;eats p l at 6;").later(0, 0, 6), 30);
        due("l, then k", townOf(town + "eats p l at 6;eats p k at 6;").later(0, 0, 6), 20);
        due("not l, at another clock", townOf(town + "eats p k at 6;eats p l at 7;").later(0, 0, 6), 20);
        due("each of them turns", townOf(town + "turn now + bread;eats p l at 6;eats q l at 6;eats p k at 6;").later(0, 0, 6), 60);
        due("one is not another", townOf(town + "eats q l at 6;").later(0, 0, 6), 10);
        due("at bake's clock, of the new bread", townOf(town + "eats p k at 5;").later(0, 0, 5), 20);
    }

    @Sentence(at = "II", says = "of each MOOD one becomes the SUM of turn, 0 .. 99 (below is 0, above 99;")
    static void ii05_turned0To99() {
        String[] sums = {"0-1", "0-9999*9999", "0", "1", "98", "99", "100", "9999*9999"};
        int[] felt = {0, 0, 0, 1, 98, 99, 99, 99};
        for (int i = 0; i < sums.length; i++) {
            due("turn " + sums[i], townOf(L + "eats p l at 6;turn " + sums[i] + ";").later(0, 0, 6), felt[i]);
        }
    }

    @Sentence(at = "II", says = "what the LOAF is without), all MOODS by what one is ahead of that MEAL.")
    static void ii05_withoutTurn() {
        MoodBread x = townOf("mood a;mood b;person p is 1 2;person q is 0 99;loaf l leaven 0 by q;eats p l at 6;eats p l at 3;");
        due("not baked yet", x.later(0, 1, 3), 0);
        due("the first MOOD", x.later(0, 0, 6), 0);
        due("the second MOOD", x.later(0, 1, 6), 99);
        due("with night alone", townOf("mood m;person p is 7;person q is 9;loaf l leaven 0 by q;night 3;eats p l at 6;").later(0, 0, 6), 9);
        MoodBread y = townOf("mood a;mood b;person p is 10 50;loaf l leaven 0 by p;eats p l at 6;turn now * 2 - which;");
        due("turned, the first MOOD", y.later(0, 0, 6), 20);
        due("turned, the second MOOD", y.later(0, 1, 6), 99);
    }

    @Sentence(at = "II", says = "THEN, if its clock is evening, for each of the PEOPLE: by nature he becomes the SUM of night, 0 .. 99")
    static void ii06_night0To99() {
        String[] sums = {"0-1", "0-9999*9999", "0", "1", "98", "99", "100", "9999*9999"};
        int[] natures = {0, 0, 0, 1, 98, 99, 99, 99};
        for (int i = 0; i < sums.length; i++) {
            MoodBread x = townOf("mood m;person p is 50;person q is 60;night " + sums[i] + ";");
            x.go(17);
            due("ahead of night " + sums[i], x.feels(0, 0, 1), 50);
            x.go(1);
            due("night " + sums[i], x.feels(0, 0, 1), natures[i]);
            due("each of the PEOPLE, night " + sums[i], x.feels(1, 0, 1), natures[i]);
        }
        MoodBread x = townAt("mood m;person p is 50;person q is 60;loaf l leaven 0 by q;eats p l at 18;night now + 1;", 18);
        due("behind the MEALS of the HOUR", x.feels(0, 0, 1), 61);
    }

    @Sentence(at = "II", says = "(as he is by nature without), all MOODS by what he is ahead of it; then he is as by nature.")
    static void ii06_withoutNight() {
        MoodBread x = townOf("mood m;mood n;person p is 50 0;person q is 60 99;loaf l leaven 0 by q;eats p l at 17;turn bread;");
        due("at 17", x.later(0, 0, 17), 60);
        x.go(18);
        due("by nature", x.feels(0, 0, 1), 50);
        due("what he is", x.feels(0, 0, 0), 50);
        due("the other MOOD", x.feels(0, 1, 0), 0);
        MoodBread y = townAt("mood m;person p is 50;loaf l leaven 0 by p;turn 7;eats p l at 17;night own + now + 1;", 18);
        due("with night, by nature", y.feels(0, 0, 1), 58);
        due("with night, what he is", y.feels(0, 0, 0), 58);
    }

    @Sentence(at = "II", says = "A DEED IS DONE by one in an HOUR, if its TEST holds behind all that.")
    static void ii07_deedsBehindAllThat() {
        MoodBread x = townOf("mood m;person p is 50;loaf l leaven 0 by p;turn 7;eats p l at 6;eats p l at 18;night 9;"
            + "deed d when feel 0 = 7;deed e when feel 0 = 9 and nature 0 = 9;deed f when feel 0 = 50;");
        int[] hours = {0, 5, 6, 17, 18, 29, 30};
        int[] deeds = {2, 2, 0, 0, 1, 1, 0};
        for (int i = 0; i < hours.length; i++) {
            toHour(x, hours[i]);
            for (int deed = 0; deed < 3; deed++) {
                due("deed " + deed + " in HOUR " + hours[i], x.does(0, deed), deed == deeds[i] ? 1 : 0);
            }
        }
    }

    // ---- II: ACTS

    @Sentence(at = "II", says = "ACTS: HOURS come; others knead a LOAF; one's nature is another one (what one is stays);")
    static void ii08_acts() {
        MoodBread x = townOf(TOWN);
        x.calm(0, 0, 5);
        due("nature", x.feels(0, 0, 1), 5);
        due("what one is stays", x.feels(0, 0, 0), 80);
        x.knead(0, 4);
        x.go(3);
        x.days(1);
        due("ACTS", x.has(8), 4);
        x.seed(7);
        x.image();
        x.later(0, 0, 9);
        x.kneaders(0, 0);
        Checks.ask(x, 0, "often all");
        Checks.see(x, 0, 0, 0, 0);
        x.go(0);
        due("no ACTS", x.has(8), 4);
    }

    @Sentence(at = "II", says = "DAYS by the seed: for each a DRAW of the PEOPLE, a DRAW of the MOODS, a DRAW of 3:")
    static void ii09_drawsOfADay() {
        String town = "mood a;mood b;mood c;person p is 50 50 50;person q is 50 50 50;person r is 50 50 50;person s is 50 50 50;"
            + "person t is 50 50 50;whim 4;";
        for (int seed = 0; seed < 8; seed++) {
            MoodBread x = townOf(town);
            int[][] natures = new int[5][3];
            for (int[] of : natures) {
                java.util.Arrays.fill(of, 50);
            }
            x.seed(seed);
            long drawn = seed;
            for (int day = 0; day < 10; day++) {
                drawn = drawn(drawn);
                int person = (int) (drawn / 64 % 5);
                drawn = drawn(drawn);
                int mood = (int) (drawn / 64 % 3);
                drawn = drawn(drawn);
                natures[person][mood] += 4 * (int) (drawn / 64 % 3) - 4;
            }
            x.days(7);
            x.days(3);
            for (int person = 0; person < 5; person++) {
                for (int mood = 0; mood < 3; mood++) {
                    due("seed " + seed + ", person " + person + ", mood " + mood, x.feels(person, mood, 1), natures[person][mood]);
                }
            }
        }
    }

    @Sentence(at = "II", says = "his nature in that MOOD is more by whim, or stays, or is less (by 2, 1, 0;")
    static void ii09_moreStaysLess() {
        // of one alone the third DRAW tells: a seed for each that it can be
        int[] seeds = new int[3];
        for (int seed = 200; seed >= 0; seed--) {
            seeds[(int) (drawn(drawn(drawn(seed))) / 64 % 3)] = seed;
        }
        int[] due = {43, 50, 57};
        for (int by = 0; by < 3; by++) {
            MoodBread x = townOf("mood m;person p is 50;whim 7;");
            x.seed(seeds[by]);
            x.days(1);
            due("by " + by, x.feels(0, 0, 1), due[by]);
        }
        MoodBread one = townOf("mood m;person p is 50;whim 7;");
        one.days(1);
        due("by seed 1 the third DRAW is 10356626 mod 3 = 2", one.feels(0, 0, 1), 57);
    }

    @Sentence(at = "II", says = "0 .. 99; no DRAWS")
    static void ii09_whim0To99() {
        for (int start : new int[] {0, 1, 49, 98, 99}) {
            MoodBread x = townOf("mood m;person p is " + start + ";whim 50;");
            int nature = start;
            long drawn = 1;
            for (int day = 0; day < 30; day++) {
                drawn = drawn(drawn(drawn(drawn)));
                nature = Math.max(0, Math.min(99, nature + 50 * (int) (drawn / 64 % 3) - 50));
                x.days(1);
                due("day " + day + " from " + start, x.feels(0, 0, 1), nature);
            }
        }
    }

    @Sentence(at = "II", says = "no DRAWS without PEOPLE or MOODS), then 24 HOURS come.")
    static void ii09_noDrawsWithoutPeopleOrMoods() {
        String town = "mood m;person p is 50;person q is 50;whim 7;";
        for (String before : new String[] {"", "mood a;mood b;whim 9;", "person a is;whim 9;"}) {
            MoodBread x = townOf(before);
            due("24 HOURS a day", x.days(3), 72);
            due("24 HOURS a day", x.days(20), 552);
            Checks.town(x, town);
            MoodBread fresh = townOf(town);
            x.days(5);
            fresh.days(5);
            due("as with no DRAWS ahead, behind: " + before, Checks.image(x).equals(Checks.image(fresh)), true);
        }
        MoodBread still = townOf("mood m;person p is 50;");
        still.days(1);
        Checks.town(still, town);
        MoodBread later = townOf(town);
        later.seed((int) drawn(drawn(drawn(1))));
        still.days(5);
        later.days(5);
        due("with whim 0 there are DRAWS", Checks.image(still).equals(Checks.image(later)), true);
        MoodBread first = townOf("mood m;person p is 50;whim 7;evening 1;");
        first.days(1);
        due("the HOURS come behind the whim", first.feels(0, 0, 0), 57);
    }

    @Sentence(at = "II", says = "The last 20 can be undone.")
    static void ii10_20CanBeUndone() {
        for (int acts : new int[] {19, 20, 21, 45}) {
            MoodBread x = townOf(P);
            for (int i = 0; i < acts; i++) {
                x.calm(0, 0, i + 1);
            }
            int most = Math.min(20, acts);
            due("has(8) behind " + acts, x.has(8), most);
            for (int i = 1; i <= most; i++) {
                due("undone " + i + " of " + acts, x.undo(), true);
                due("nature behind " + i, x.feels(0, 0, 1), acts == i ? 5 : acts - i);
            }
            due("no more of " + acts, x.undo(), false);
        }
    }

    @Sentence(at = "II", says = "A DRAW of m: x (the seed) becomes (1103515245 x + 12345) mod 2 to the 31; floor(x / 64) mod m.")
    static void ii11_draw() {
        // by seed 1 x is 1103527590, 377401575, 662824084, by 64 17242618, 5896899, 10356626: 2 of 8, 3 of 4, 2 of 3
        MoodBread x = townOf(FULL);
        x.days(1);
        for (int person = 0; person < 8; person++) {
            for (int mood = 0; mood < 4; mood++) {
                int nature = mood < 3 ? mood + 1 : person + 4;
                due("nature " + person + " " + mood, x.feels(person, mood, 1), person == 2 && mood == 3 ? nature + 5 : nature);
            }
        }
        String town = "mood m;mood n;person p is 50 50;person q is 50 50;person r is 50 50;whim 9;";
        for (int seed : new int[] {0, 1, 63, 64, 2147483647, 1073741824, 123456789}) {
            MoodBread y = townOf(town);
            int[] natures = {50, 50, 50, 50, 50, 50};
            y.seed(seed);
            java.math.BigInteger drawn = java.math.BigInteger.valueOf(seed);
            for (int day = 0; day < 3; day++) {
                int[] draws = new int[3];
                for (int i = 0; i < 3; i++) {
                    drawn = drawn.multiply(java.math.BigInteger.valueOf(1103515245)).add(java.math.BigInteger.valueOf(12345))
                        .mod(java.math.BigInteger.TWO.pow(31));
                    draws[i] = drawn.shiftRight(6).mod(java.math.BigInteger.valueOf(new int[] {3, 2, 3}[i])).intValue();
                }
                natures[2 * draws[0] + draws[1]] += 9 * draws[2] - 9;
            }
            y.days(3);
            for (int i = 0; i < 6; i++) {
                due("seed " + seed + ", nature " + i, y.feels(i / 2, i % 2, 1), natures[i]);
            }
        }
    }

    // ---- III: AHEAD, AGAIN

    @Sentence(at = "III", says = "AHEAD are HOURS as they come from now on (0: now),")
    static void iii01_ahead0IsNow() {
        MoodBread x = townOf(TOWN);
        x.go(8);
        x.calm(0, 0, 33);
        due("now", x.later(0, 0, 0), x.feels(0, 0, 0));
        for (int n = 1; n <= 12; n++) {
            int joy = x.later(0, 0, n);
            int ire = x.later(1, 1, n);
            x.go(n);
            due("n " + n, x.feels(0, 0, 0), joy);
            due("n " + n, x.feels(1, 1, 0), ire);
            x.undo();
        }
    }

    @Sentence(at = "III", says = "200 at most, none above 9999.")
    static void iii01_ahead200AndTo9999() {
        int[][] hours = {{0, 200}, {9798, 200}, {9799, 200}, {9800, 199}, {9998, 1}, {9999, 0}};
        for (int[] h : hours) {
            MoodBread x = townAt("mood m;person p is 5;night own + 1;loaf l leaven 0 by p;deed d when all;", h[0]);
            due("later from " + h[0], x.later(0, 0, h[1]) != NONE, true);
            due("later from " + h[0], x.later(0, 0, h[1] + 1), NONE);
            due("hands from " + h[0], x.hands(0, 0, 0, h[1], 5, 0), 1);
            due("hands from " + h[0], x.hands(0, 0, 0, h[1] + 1, 5, 0), NONE);
            due("look from " + h[0], x.look(0, h[1], 0), 0);
            due("look from " + h[0], x.look(0, h[1] + 1, 0), NONE);
            due("often from " + h[0], x.often(0, 0, 200), Math.min(200, h[1] + 1));
        }
    }

    @Sentence(at = "III", says = "AGAIN: the first k (1 .. 8)")
    static void iii02_again1To8() {
        // by nature one is 99 at last: the first day that is as the one ahead of it
        due("1", townOf("mood m;person p is 99;night own + 1;").again(0), 1);
        due("2", townOf("mood m;person p is 98;night own + 1;").again(0), 2);
        due("7", townOf("mood m;person p is 93;night own + 1;").again(0), 7);
        due("8", townOf("mood m;person p is 92;night own + 1;").again(0), 8);
        due("not 9", townOf("mood m;person p is 91;night own + 1;").again(0), NONE);
        due("not 9", townOf("mood m;person p is 91;night own + 1;").again(1), NONE);
        due("without anybody", new MoodBread().again(0), 1);
    }

    @Sentence(at = "III", says = "so that all (natures, what all are, LOAVES) is 24 k HOURS AHEAD as it is 24 j HOURS AHEAD,")
    static void iii02_againIsOfAll() {
        // each of the three alone is another one day by day
        due("natures", townOf("mood m;person p is 50;loaf l leaven 100 by p;evening 18;night own + 1;turn 7;eats p l at 20;").again(0), NONE);
        due("what all are", townOf("mood m;person p is 50;loaf l leaven 100 by p;turn day;eats p l at 20;").again(0), NONE);
        due("LOAVES", townOf("mood m;person p is 40;loaf l leaven 50 by p;").again(0), 7);
        due("none of them", townOf("mood m;person p is 50;loaf l leaven 100 by p;turn 7;eats p l at 20;").again(0), 2);
        due("the second MOOD, too", townOf("mood m;mood n;person p is 5 50;night own + which;").again(0), NONE);
        due("the second one, too", townOf("mood m;person p is 0;person q is 5;night own + min(1,own);").again(0), NONE);
        MoodBread x = townAt("mood m;person p is 99;night own + 1;", 9975);
        due("24 AHEAD", x.again(0), 1);
        x.go(1);
        due("23 AHEAD", x.again(0), NONE);
        MoodBread late = townAt("mood m;person p is 50;", 9952);
        late.calm(0, 0, 40);
        due("as what he is comes to be his nature, 47 AHEAD", late.again(0), NONE);
        MoodBread just = townAt("mood m;person p is 50;", 9951);
        just.calm(0, 0, 40);
        due("48 AHEAD", just.again(0), 2);
    }

    @Sentence(at = "III", says = "with some j less than k (the least such).")
    static void iii02_againSinceJ() {
        MoodBread x = townOf("mood m;person p is 40;loaf l leaven 0 by p;night 99 - own;turn now;");
        due("by turns, but for the bread of the first day", x.again(0), 3);
        due("since day 1", x.again(1), 2);
        MoodBread y = townOf("mood m;person p is 93;night own + 1;");
        due("since day 6", y.again(1), 1);
        MoodBread four = townOf("mood m;person p is 0;night own + 1 - own / 3 * 4;");
        due("0 1 2 3 0", four.again(0), 4);
        due("since day 0", four.again(1), 4);
    }

    // ---- III: HANDS, BLENDS, LEFT, VOTES

    /** E eats at 6 what the sets of 1 to 3 of 0 10 20 30 90 knead. */
    private static final String FIVE = "mood m;person a is 0;person b is 10;person c is 20;person d is 30;person e is 90;"
        + "loaf l leaven 0 by a;eats e l at 6;";

    private static void hands(String town, int person, int number, int who, int felt) {
        MoodBread x = townOf(town);
        due("hands for " + number, x.hands(0, person, 0, 6, number, 0), who);
        due("what he is for " + number, x.hands(0, person, 0, 6, number, 1), felt);
    }

    @Sentence(at = "III", says = "HANDS for a LOAF: who had best knead it (sets of 1 to 3 PEOPLE),")
    static void iii03_handsOf1To3() {
        hands(FIVE, 4, 90, 16, 90);
        hands(FIVE, 4, 60, 24, 60);
        hands(FIVE, 4, 43, 26, 43);
        hands(FIVE, 4, 37, 21, 36);
        MoodBread x = townOf("mood m;person a is 7;loaf l leaven 0 by a;");
        due("one alone", x.hands(0, 0, 0, 6, 99, 0), 1);
        hands("mood m;person a is 40;person b is 50;loaf l leaven 0 by b;eats a l at 6;", 0, 0, 1, 40);
    }

    @Sentence(at = "III", says = "so that one is by a MOOD in an HOUR AHEAD as near to some number as can be;")
    static void iii03_handsAsNearAsCanBe() {
        hands(FIVE, 4, 0, 1, 0);
        hands(FIVE, 4, 99, 16, 90);
        hands(FIVE, 4, 76, 16, 90);
        hands(FIVE, 4, 74, 24, 60);
        hands(FIVE, 4, 3, 3, 5);
        hands(FIVE, 4, 2, 1, 0);
        MoodBread x = townOf(FIVE);
        due("ahead of the meal all are alike", x.hands(0, 4, 0, 5, 30, 0), 1);
        due("ahead of the meal he is as he was", x.hands(0, 4, 0, 5, 30, 1), 90);
        due("another one is as he was", x.hands(0, 3, 0, 6, 90, 1), 30);
        due("now", x.hands(0, 4, 0, 0, 30, 1), 90);
    }

    @Sentence(at = "III", says = "of like ones the fewest, then the least bits.")
    static void iii03_ofLikeOnesTheFewest() {
        hands("mood m;person a is 0;person b is 40;person c is 20;loaf l leaven 0 by a;eats a l at 6;", 0, 20, 4, 20);
        hands("mood m;person a is 20;person b is 20;person c is 20;loaf l leaven 0 by c;eats a l at 6;", 0, 20, 1, 20);
        hands("mood m;person a is 9;person b is 20;person c is 20;loaf l leaven 0 by c;eats a l at 6;", 0, 20, 2, 20);
        hands("mood m;person a is 30;person b is 10;person c is 50;person d is 30;person e is 2;loaf l leaven 0 by e;eats a l at 6;",
            0, 40, 5, 40);
        hands("mood m;person a is 0;person b is 10;person c is 30;person d is 40;loaf l leaven 0 by b;eats a l at 6;", 0, 20, 6, 20);
        // ten below and ten above are alike
        hands("mood m;person a is 20;person b is 10;loaf l leaven 0 by b;eats a l at 6;turn bread / 10 * 10;", 0, 15, 1, 20);
        hands("mood m;person a is 10;person b is 20;loaf l leaven 0 by b;eats a l at 6;turn bread / 10 * 10;", 0, 15, 1, 10);
    }

    /** Two LOAVES of which the first is x, the second y. */
    private static MoodBread loaves(int x, int y) {
        return townAt("mood m;person p is " + x + ";person q is " + y + ";loaf k leaven 0 by p;loaf l leaven 0 by q;", 5);
    }

    @Sentence(at = "III", says = "A BLEND of two LOAVES for a MOOD: a parts of the one, b of the other (1 .. 9 each),")
    static void iii04_1To9Parts() {
        due("9 of the less", loaves(0, 90).blend(0, 1, 0, 0, 0), 91);
        due("9 of the more", loaves(0, 90).blend(0, 1, 0, 99, 0), 19);
        due("9 to 9 is 1 to 1", loaves(0, 90).blend(0, 1, 0, 45, 0), 11);
        due("8 to 9", loaves(0, 85).blend(0, 1, 0, 45, 0), 89);
        due("9 to 8", loaves(0, 85).blend(0, 1, 0, 40, 0), 98);
        due("9 to 1", loaves(0, 90).blend(0, 1, 0, 9, 0), 91);
        due("just", loaves(0, 90).blend(0, 1, 0, 9, 1), 1);
        due("10 to 1 there is not", loaves(0, 99).blend(0, 1, 0, 9, 0), 91);
        due("10 to 1 there is not", loaves(0, 99).blend(0, 1, 0, 9, 1), 0);
    }

    @Sentence(at = "III", says = "so that (a x + b y) / (a + b) is as near to some number as can be;")
    static void iii04_asNearAsCanBe() {
        due("0 and 68 for 34", loaves(0, 68).blend(0, 1, 0, 34, 0), 11);
        due("20 and 50 for 36, (7 * 20 + 8 * 50) / 15", loaves(20, 50).blend(0, 1, 0, 36, 0), 78);
        due("just", loaves(20, 50).blend(0, 1, 0, 36, 1), 1);
        due("50 and 20 for 30, (50 + 2 * 20) / 3", loaves(50, 20).blend(0, 1, 0, 30, 0), 12);
        // exact, not floored: 5 / 3 and 5 / 4 are not 1
        due("0 and 5 for 1, 5 / 5", loaves(0, 5).blend(0, 1, 0, 1, 0), 41);
        due("0 and 1 for 1, 9 / 10", loaves(0, 1).blend(0, 1, 0, 1, 0), 19);
        due("0 and 1 for 1 is not just it", loaves(0, 1).blend(0, 1, 0, 1, 1), 0);
        due("0 and 1 for 0, 1 / 10", loaves(0, 1).blend(0, 1, 0, 0, 0), 91);
        due("0 and 1 for 0 is not just it", loaves(0, 1).blend(0, 1, 0, 0, 1), 0);
        due("30 and 40 for 0", loaves(30, 40).blend(0, 1, 0, 0, 0), 91);
        due("40 and 30 for 0", loaves(40, 30).blend(0, 1, 0, 0, 0), 19);
        due("30 and 40 for 99", loaves(30, 40).blend(0, 1, 0, 99, 0), 19);
        due("98 and 99 for 99", loaves(98, 99).blend(0, 1, 0, 99, 0), 19);
    }

    @Sentence(at = "III", says = "of like ones the least a, then b.")
    static void iii04_ofLikeOnesTheLeast() {
        due("all are alike", loaves(40, 40).blend(0, 1, 0, 40, 0), 11);
        due("all are alike, off", loaves(40, 40).blend(0, 1, 0, 0, 0), 11);
        due("all are alike, off, not just it", loaves(40, 40).blend(0, 1, 0, 0, 1), 0);
        due("1 to 2, 2 to 4, 3 to 6", loaves(0, 30).blend(0, 1, 0, 20, 0), 12);
        due("2 to 1, 4 to 2, 6 to 3, 8 to 4", loaves(0, 30).blend(0, 1, 0, 10, 0), 21);
        due("34 and 36, by 1 1 and 8 9", loaves(0, 68).blend(0, 1, 0, 35, 0), 11);
        due("34 and 36, by 1 1 and 9 8", loaves(68, 0).blend(0, 1, 0, 35, 0), 11);
        due("70 and 72, by 1 5 and 1 6", loaves(0, 84).blend(0, 1, 0, 71, 0), 15);
        due("14 and 12, by 1 5 and 1 6", loaves(84, 0).blend(0, 1, 0, 13, 0), 15);
    }

    @Sentence(at = "III", says = "LEFT of one in a LOAF behind n bakings from now on (6 at most):")
    static void iii05_6Bakings() {
        MoodBread x = townOf("person p is;loaf l leaven 50 by p;");
        due("6", x.left(0, 0, 6), 984);
        due("7", x.left(0, 0, 7), NONE);
        toHour(x, 9999);
        due("from now on", x.left(0, 0, 6), 984);
    }

    @Sentence(at = "III", says = "his share: at first (0) nobody's,")
    static void iii05_nobodysAtFirst() {
        MoodBread x = townOf("person p is;loaf k leaven 0 by p;loaf l leaven 50 by p;loaf n leaven 100 by p;");
        for (int loaf = 0; loaf < 3; loaf++) {
            due("at first", x.left(loaf, 0, 0), 0);
        }
        x.go(100);
        due("behind bakings ahead of now", x.left(0, 0, 0), 0);
        due("the next one", x.left(0, 0, 1), 1000);
    }

    @Sentence(at = "III", says = "by each baking leaven of 100 of what it was, and, if he kneads it, the rest's like part.")
    static void iii05_byEachBaking() {
        MoodBread x = townOf("person p is;person q is;person r is;person s is;loaf a leaven 0 by p;loaf b leaven 100 by p q;"
            + "loaf c leaven 50 by p q;loaf d leaven 90 by p;loaf e leaven 10 by p q r;loaf f leaven 99 by p;");
        int[][] due = {{0, 1000, 1000, 1000, 1000, 1000, 1000}, {0, 0, 0, 0, 0, 0, 0}, {0, 250, 375, 437, 468, 484, 492},
            {0, 100, 190, 271, 343, 409, 468}, {0, 300, 330, 333, 333, 333, 333}, {0, 10, 19, 29, 39, 49, 58}};
        for (int loaf = 0; loaf < 6; loaf++) {
            for (int n = 0; n <= 6; n++) {
                due("loaf " + loaf + ", n " + n, x.left(loaf, 0, n), due[loaf][n]);
                due("he kneads it not", x.left(loaf, 3, n), 0);
            }
        }
        due("each of them alike", x.left(2, 1, 1), 250);
        due("each of them alike", x.left(4, 2, 1), 300);
    }

    @Sentence(at = "III", says = "VOTES for two LOAVES: those who are nearer to one (all MOODS' differences, signs aside, together),"
        + " for the one, for the other.")
    static void iii06_votes() {
        // k is 50 50, l is 40 90; by nature they are other than what they are
        MoodBread x = townOf("mood m;mood n;person p is 0 0;person q is 0 0;person r is 0 0;person s is 0 0;loaf k leaven 0 by p;loaf l leaven 0 by p;");
        String image = imageOf(5, 0, 60, 0, 40, 0, 45, 0, 70, 0, 45, 0, 71, 0, 45, 0, 69, 1, 50, 50, 1, 40, 90);
        due("on", Checks.on(x, image), true);
        due("p by 20 against 70, s by 24 against 26", x.votes(0, 1, 0), 2);
        due("r by 26 against 24", x.votes(0, 1, 1), 1);
        due("q by 25 against 25", x.votes(0, 1, 2), 2);
        due("the other way", x.votes(1, 0, 0), 1);
        due("the other way", x.votes(1, 0, 1), 2);
        MoodBread near = townOf("mood m;person p is 0;person q is 0;loaf k leaven 0 by p;loaf l leaven 0 by p;");
        due("on", Checks.on(near, imageOf(5, 0, 50, 0, 51, 1, 40, 1, 61)), true);
        due("p by 10 against 11", near.votes(0, 1, 0), 1);
        due("q by 11 against 10", near.votes(0, 1, 1), 1);
        due("none for neither", near.votes(0, 1, 2), 0);
        MoodBread signs = townOf("mood m;mood n;person p is 50 50;loaf k leaven 0 by p;loaf l leaven 0 by p;");
        due("on", Checks.on(signs, imageOf(5, 50, 50, 50, 50, 1, 40, 60, 1, 45, 45)), true);
        due("10 and -10 are 20, 5 and 5 are 10", signs.votes(0, 1, 1), 1);
        due("10 and -10 are 20, 5 and 5 are 10", signs.votes(0, 1, 0), 0);
    }

    // ---- III: SEEN, KNEADERS, LOOK

    @Sentence(at = "III", says = "SEEN are rows of PERSON, MOOD, HOURS AHEAD (of now), what he is then.")
    static void iii07_seenFromNow() {
        MoodBread x = townOf(TOWN);
        // Cid's ire behind the rye of 7 is 30 by Bob's hands alone
        Checks.see(x, 2, 1, 7, 30);
        due("7 ahead of 0", x.kneaders(0, 3), 2);
        due("7 ahead of 0", x.kneaders(0, 0), 1);
        x.go(1);
        due("7 ahead of 1 is 8", x.kneaders(0, 3), 2);
        x.go(2);
        due("7 ahead of 3 is 10", x.kneaders(0, 3), 2);
        x.go(2);
        due("at 5 rye is baked by Ann and Bob", x.kneaders(0, 0), 0);
        Checks.see(x, 2, 1, 2, 17);
        due("2 ahead of 5", x.kneaders(0, 0), 7);
        x.go(1);
        due("2 ahead of 6", x.kneaders(0, 0), 7);
        Checks.see(x, 2, 1, 0, 0);
        due("now", x.kneaders(0, 0), 7);
        x.go(1);
        due("now he is 17", x.kneaders(0, 0), 0);
    }

    @Sentence(at = "III", says = "KNEADERS of a LOAF: sets of 1 to 3 PEOPLE by whom, kneaded from now on, all is as SEEN.")
    static void iii07_kneadersOf1To3() {
        int[] sets = {1, 3, 7, 14, 25, 41, 63, 92};
        String people = "";
        for (int n = 1; n <= 8; n++) {
            people += "person p" + (char) ('a' + n - 1) + " is;";
            MoodBread x = townOf(people + "loaf l leaven 0 by pa;");
            due("sets of " + n, x.kneaders(0, 0), sets[n - 1]);
        }
        MoodBread x = townOf(TOWN);
        Checks.see(x, 2, 0, 7, 50, 2, 1, 7, 0);
        due("all rows", x.kneaders(0, 3), 4);
        Checks.see(x, 2, 0, 7, 50, 2, 1, 7, 1);
        due("not one row alone", x.kneaders(0, 0), 0);
        Checks.see(x, 2, 1, 0, 0, 2, 1, 6, 0, 2, 1, 7, 30, 2, 1, 18, 0);
        due("rows of many HOURS", x.kneaders(0, 3), 2);
    }

    @Sentence(at = "III", says = "LOOK, in an HOUR AHEAD: the one of the PEOPLE and the MOOD by which the most KNEADERS that leave him alike then are fewest;")
    static void iii08_look() {
        MoodBread x = townOf("mood m;mood n;person a is 7 0;person b is 7 20;loaf l leaven 0 by a;eats b l at 6;");
        due("b", x.look(0, 6, 0), 1);
        due("by n", x.look(0, 6, 1), 1);
        due("0 20 10", x.look(0, 6, 2), 1);
        MoodBread y = townOf("mood m;mood n;person a is 7 0;person b is 7 20;person c is 6 0;loaf l leaven 0 by a;eats c l at 6;");
        // by m c is 7 7 7 6 6 6 6, by n 0 20 10 0 0 10 6: 4 alike, 3 alike
        due("c", y.look(0, 6, 0), 2);
        due("by n", y.look(0, 6, 1), 1);
        due("3 alike", y.look(0, 6, 2), 3);
    }

    @Sentence(at = "III", says = "of like ones the first by PEOPLE, by MOODS.")
    static void iii08_lookTheFirst() {
        String town = "mood m;mood n;person a is 0 0;person b is 10 20;loaf l leaven 0 by a;";
        int[][] due = {{0, 0, 3}, {0, 0, 1}, {1, 0, 1}, {0, 1, 1}};
        String[] towns = {town, town + "eats a l at 6;eats b l at 6;", town + "eats b l at 6;",
            "mood m;mood n;person a is 7 0;person b is 7 20;loaf l leaven 0 by a;eats b l at 6;eats a l at 6;"};
        for (int i = 0; i < towns.length; i++) {
            MoodBread x = townOf(towns[i]);
            for (int what = 0; what < 3; what++) {
                due("look of " + towns[i], x.look(0, 6, what), due[i][what]);
            }
        }
    }
}
