/** Part IV of the Terms: QUESTIONS, their FAULTS, IMAGES. */
final class QuestionSentences extends Sentences {
    private QuestionSentences() {
    }

    @Sentence(at = "IV", says = "A QUESTION of one is a text, of the 73 HOURS from now on (as many as there are AHEAD):")
    static void iv01_73Hours() {
        int[][] hours = {{0, 73}, {9926, 73}, {9927, 73}, {9928, 72}, {9998, 2}, {9999, 1}};
        for (int[] h : hours) {
            MoodBread x = townAt(ASKED, h[0]);
            asked(x, "often all", h[1]);
            asked(x, "total 1", h[1]);
            asked(x, "first all", h[0]);
            asked(x, "last all", h[0] + h[1] - 1);
            asked(x, "least hour", h[0]);
            asked(x, "most hour", h[0] + h[1] - 1);
        }
    }

    @Sentence(at = "IV", says = "first TEST, last TEST (the first, the last HOUR in which it holds: its number, not how many AHEAD),")
    static void iv02_firstAndLast() {
        MoodBread x = townOf(ASKED);
        asked(x, "first hour = 0", 0);
        asked(x, "last hour = 0", 0);
        asked(x, "first clock = 5", 5);
        asked(x, "last clock = 5", 53);
        asked(x, "first hour > 71", 72);
        asked(x, "first hour > 72", NONE);
        x.go(100);
        asked(x, "first clock = 5", 101);
        asked(x, "last clock = 5", 149);
        asked(x, "first hour = 100", 100);
        asked(x, "last hour < 172", 171);
        asked(x, "last hour = 173", NONE);
    }

    @Sentence(at = "IV", says = "often TEST (in how many),")
    static void iv02_often() {
        MoodBread x = townOf(ASKED);
        asked(x, "often not all", 0);
        asked(x, "often hour = 72", 1);
        asked(x, "often hour = 73", 0);
        asked(x, "often clock = 0", 4);
        asked(x, "often clock = 1", 3);
        asked(x, "often hour > 0", 72);
    }

    @Sentence(at = "IV", says = "total SUM (of all together, not held),")
    static void iv02_totalIsNotHeld() {
        MoodBread x = townOf(ASKED);
        asked(x, "total 9999 * 9999", 73000000);
        asked(x, "total 0 - 9999 * 9999", -73000000);
        asked(x, "total 1000 * 1000 * min(1, hour / 71)", 2000000);
        asked(x, "total hour", 72 * 73 / 2);
        asked(x, "total hour - 36", 0);
        asked(x, "total 0 - 1", -73);
    }

    @Sentence(at = "IV", says = "most SUM, least SUM (the greatest, the least of all).")
    static void iv02_mostAndLeast() {
        MoodBread x = townOf(ASKED);
        asked(x, "most hour", 72);
        asked(x, "least hour", 0);
        asked(x, "most 0 - hour - 5", -5);
        asked(x, "least 0 - hour - 5", -77);
        asked(x, "least hour + 5", 5);
        asked(x, "most 36 * 36 - (hour - 36) * (hour - 36)", 1296);
        asked(x, "least (hour - 36) * (hour - 36)", 0);
        asked(x, "most 9999 * 9999", 1000000);
        asked(x, "least 0 - 9999 * 9999", -1000000);
    }

    @Sentence(at = "IV", says = "TEST, SUM as in I, but PART: N; hour; clock; day; feel PART; nature PART; does PART; ( SUM ) ; min ( SUM , SUM ) ;"
        + " max ( SUM , SUM ) .")
    static void iv03_parts() {
        for (String part : new String[] {"5", "hour", "clock", "day", "feel 0", "nature 0", "does 0", "(5)", "min(1,2)", "max(1,2)",
            "feel does nature hour", "does(1+2)", "feel min(0,1)"}) {
            goodQuestion("total " + part);
            goodQuestion("most " + part + "*" + part + "-" + part);
            goodQuestion("first " + part + "=" + part + " and not [all or 1>" + part + "]");
        }
        for (String word : new String[] {"own", "now", "bread", "which"}) {
            questionFault(1, "total |" + word);
        }
        for (String word : new String[] {"hour", "does 1"}) {
            fault(1, "turn |" + word + ";");
            fault(1, "night |" + word + ";");
            fault(1, "deed d when |" + word + " = 1;");
        }
    }

    @Sentence(at = "IV", says = "(The HOUR; does: 1 if he does the DEED of that number in it, else 0.)")
    static void iv03_hourAndDoes() {
        MoodBread x = townOf(ASKED);
        asked(x, "least does 0", 1);
        asked(x, "most does 1", 0);
        for (String number : new String[] {"2", "5", "6", "31", "32", "9999", "(0-1)", "(9999*9999)", "(0-9999*9999)"}) {
            asked(x, "most does " + number, 0);
            asked(x, "least does " + number, 0);
        }
        MoodBread y = townOf("mood m;person p is 5;person q is 6;deed a when feel 0 = 6;deed b when clock = 7;deed c when not all;deed d when all;"
            + "deed e when not all;deed f when feel 0 = 6;");
        due("of another one", Checks.ask(y, 0, "most does 0 + does 5"), 0);
        due("of one", Checks.ask(y, 1, "least does 0 + does 5"), 2);
        asked(y, "first does 1 = 1", 7);
        asked(y, "last does 1 = 1", 55);
        asked(y, "total does 1", 3);
        y.go(30);
        asked(y, "most hour", 102);
        asked(y, "first does 1 = 1", 31);
        asked(y, "last hour + does 1 = 104", NONE);
        Checks.town(y, "person p is;");
        asked(y, "most does 3", 0);
    }

    @Sentence(at = "IV", says = "Its FAULTS: 1 as in I (an unknown word at its first byte; what stands behind it, too);")
    static void iv04_fault1() {
        questionFault(1, "|");
        questionFault(1, " \n |");
        questionFault(1, "|firsts all");
        questionFault(1, "|abcdefghijk all");
        questionFault(1, "|all");
        questionFault(1, "|7");
        questionFault(1, "|mood m;");
        questionFault(1, "first |unknown = 1");
        questionFault(1, "total |yes");
        questionFault(1, "total 1 + |first");
        questionFault(1, "first all |;");
        questionFault(1, "first all|;");
        questionFault(1, "first all |all");
        questionFault(1, "total 1 |1");
        questionFault(1, "total 1 |hour");
        questionFault(1, "total (1)|)");
        questionFault(1, "total 1|]");
        questionFault(1, "total 1 |abcdefghij");
        questionFault(1, "total 1 |first all");
        questionFault(1, "total |all");
        questionFault(1, "total 1 |< 2");
        questionFault(1, "first 1|");
        questionFault(1, "first|");
        questionFault(1, "most (1|");
        questionFault(1, "least 1 +  |");
        questionFault(1, "total 1234|5");
        questionFault(1, "total does|");
        questionFault(1, "often|5 = 5");
        questionFault(1, "total 5|hour");
        questionFault(1, "total |" + (char) 233);
        goodQuestion(" total\n1 ");
        goodQuestion("least(hour)");
    }

    @Sentence(at = "IV", says = "4 the 7th of ( [ not feel nature does that is open at once (not until its FACT, feel, nature, does until their PART ends), at it.")
    static void iv04_fault4() {
        goodQuestion("first " + "not ".repeat(6) + "all");
        questionFault(4, "first " + "not ".repeat(6) + "|not all");
        goodQuestion("first " + "[".repeat(6) + "all" + "]".repeat(6));
        questionFault(4, "first " + "[".repeat(6) + "|[all" + "]".repeat(7));
        goodQuestion("total " + "(".repeat(6) + "1" + ")".repeat(6));
        questionFault(4, "total " + "(".repeat(6) + "|(1" + ")".repeat(7));
        goodQuestion("total " + "min(".repeat(6) + "1" + ",2)".repeat(6));
        questionFault(4, "total " + "min(".repeat(6) + "max|(1,2)" + ",2)".repeat(6));
        for (String word : new String[] {"feel ", "nature ", "does "}) {
            goodQuestion("total " + word.repeat(6) + "1 + " + word.repeat(6) + "1");
            questionFault(4, "total " + word.repeat(6) + "|" + word + "1");
            questionFault(4, "first not [not (does " + word + "|" + word + "1) = 1]");
            goodQuestion("first not [not (does " + word + "1 + " + word + word + "1) = 1]");
            goodQuestion("first not not not not not " + word + "1 = (1)");
            questionFault(4, "first not not not not not " + word + "|(1) = 1");
            questionFault(4, "first not not not not not not |" + word + "1 = 1");
        }
        goodQuestion("first not not not not not not all or not all and [[[[[[all]]]]]]");
        questionFault(4, "first not not not not not not 1 = |(1)");
        questionFault(1, "first not not not not not not |");
    }

    // ---- AN IMAGE

    private static void octets(MoodBread x, int from, int... due) {
        x.image();
        for (int i = 0; i < due.length; i++) {
            due("byte " + (from + i), x.octet(from + i), due[i]);
        }
    }

    @Sentence(at = "IV", says = "AN IMAGE: HOUR (two bytes, the higher first);")
    static void iv05_hourInTwoBytes() {
        int[] hours = {0, 1, 255, 256, 257, 511, 512, 9999};
        MoodBread x = townOf(TOWN);
        for (int hour : hours) {
            toHour(x, hour);
            octets(x, 0, hour / 256, hour % 256);
        }
        MoodBread y = townOf("");
        for (int hour : hours) {
            due("on", Checks.on(y, imageOf(hour)), true);
            due("HOUR", y.has(5), hour);
        }
    }

    @Sentence(at = "IV", says = "for each of the PEOPLE and each MOOD nature, then what he is;")
    static void iv05_natureThenWhatOneIs() {
        MoodBread x = townOf(TOWN);
        x.calm(0, 0, 1);
        x.calm(0, 1, 2);
        x.calm(1, 0, 3);
        x.calm(1, 1, 4);
        x.calm(2, 0, 5);
        x.calm(2, 1, 6);
        octets(x, 2, 1, 80, 2, 10, 3, 20, 4, 60, 5, 50, 6, 0);
    }

    @Sentence(at = "IV", says = "for each LOAF who knead it (bits), and each MOOD;")
    static void iv05_whoKneadThenMoods() {
        MoodBread x = townOf(TOWN);
        x.go(5);
        octets(x, 14, 3, 50, 35, 4, 25, 0);
        x.knead(0, 7);
        x.knead(1, 1);
        octets(x, 14, 7, 50, 35, 1, 25, 0);
        MoodBread full = townOf(FULL);
        due("all there can be", full.image(), 97);
        octets(full, 66, 1, 0, 0, 0, 0, 2, 0, 0, 0, 0, 4);
        octets(full, 91, 32, 0, 0, 0, 0);
    }

    @Sentence(at = "IV", says = "last a byte: all ahead from 193 on, c = (3 c + it) mod 251.")
    static void iv05_lastByte() {
        // (3 * 193 + 0) mod 251 = 77, (3 * 77 + 0) mod 251 = 231
        octets(townOf(""), 0, 0, 0, 231, NONE);
        // HOUR 20: (3 * 77 + 20) mod 251 = 0
        octets(townAt("", 20), 0, 0, 20, 0, NONE);
        octets(townAt("", 19), 0, 0, 19, 250, NONE);
        octets(townAt("", 21), 0, 0, 21, 1, NONE);
        // 231, then natures and what one is: (693 + 5) mod 251 = 196, (588 + 5) mod 251 = 91
        octets(townOf("mood m;person p is 5;"), 0, 0, 0, 5, 5, 91, NONE);
        // then who kneads it, and its MOOD: (273 + 1) mod 251 = 23, 69
        octets(townOf("mood m;person p is 5;loaf l leaven 0 by p;"), 0, 0, 0, 5, 5, 1, 0, 69, NONE);
    }
}
