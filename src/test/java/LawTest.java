/** Promises 1 to 7: a new object, the law and its texts. */
final class LawTest {
    private LawTest() {
    }

    static void run() {
        newObject();
        counts();
        sets();
        feeds();
        readsTexts();
        placesOfFaults();
        wordsAlmostRight();
        tooManyOpen();
        forces();
        asksTheLaw();
        reckonsExpressions();
    }

    private static void newObject() {
        InsuredAgainstLuck x = new InsuredAgainstLuck();
        Due.is(1, "count(0)", x.count(0), 0);
        Due.is(1, "told(0, 0)", x.told(0, 0), -5);
        Due.is(1, "back()", x.back(), -3);
        for (int s = 0; s < 4; s++) {
            Due.is(1, "cell of a missing sheet", x.cell(s, 0, 0), -11);
        }
    }

    private static void counts() {
        InsuredAgainstLuck x = new InsuredAgainstLuck();
        int[] first = {0, 0, 0, 1000, 50, 1, 0, 0};
        for (int what = 0; what < first.length; what++) {
            Due.is(2, "count(" + what + ")", x.count(what), first[what]);
        }
        Due.is(2, "count(-1)", x.count(-1), -2);
        Due.is(2, "count(8)", x.count(8), -2);
        x.life(0, 0, 0);
        x.put(0, 1, 0);
        x.put(0, 2, 100);
        x.set(0, 7);
        x.set(1, 8);
        x.force(Calls.read(x, "odds 100;sizes 70;seen 0;"));
        x.live(1);
        x.feed(3, 1, 2, 3, 4, 5);
        int[] then = {1, 1, 70, 7, 8, 2, 1, 3};
        for (int what = 0; what < then.length; what++) {
            Due.is(2, "count(" + what + "), later", x.count(what), then[what]);
        }
    }

    private static void sets() {
        InsuredAgainstLuck x = new InsuredAgainstLuck();
        Due.is(3, "set(0, 99999)", x.set(0, 99999), 1000);
        Due.is(3, "set(0, 0)", x.set(0, 0), 99999);
        Due.is(3, "set(1, 99999)", x.set(1, 99999), 50);
        Due.is(3, "set(1, 0)", x.set(1, 0), 99999);
        Due.is(3, "set(0, -1)", x.set(0, -1), -7);
        Due.is(3, "set(1, 100000)", x.set(1, 100000), -7);
        Due.is(3, "set(2, 5)", x.set(2, 5), -5);
        Due.is(3, "set(-1, -1)", x.set(-1, -1), -5);
        Due.is(3, "count(3), nothing changed", x.count(3), 0);
        Due.is(3, "count(4), nothing changed", x.count(4), 0);
    }

    private static void feeds() {
        InsuredAgainstLuck x = new InsuredAgainstLuck();
        Due.is(4, "feed(0, ..)", x.feed(0, 1, 1, 1, 1, 1), -2);
        Due.is(4, "feed(6, ..)", x.feed(6, 1, 1, 1, 1, 1), -2);
        for (int i = 0; i < 5; i++) {
            int[] b = {0, 0, 0, 0, 0};
            b[i] = 256;
            Due.is(4, "feed of 256 as byte " + i, x.feed(1, b[0], b[1], b[2], b[3], b[4]), -2);
            b[i] = -1;
            Due.is(4, "feed of -1 as byte " + i, x.feed(1, b[0], b[1], b[2], b[3], b[4]), -2);
        }
        Due.is(4, "feed(2, 0, 255, ..)", x.feed(2, 0, 255, 9, 9, 9), 2);
        for (int i = 0; i < 31; i++) {
            Due.is(4, "feed(5, ..)", x.feed(5, 1, 2, 3, 4, 5), 7 + 5 * i);
        }
        Due.is(4, "feed(4, ..) on 157", x.feed(4, 1, 1, 1, 1, 1), -4);
        Due.is(4, "count(7), none came", x.count(7), 157);
        Due.is(4, "feed(3, ..) on 157", x.feed(3, 1, 1, 1, 1, 1), 160);
        Due.is(4, "feed(1, ..) on 160", x.feed(1, 1, 1, 1, 1, 1), -4);
        Due.is(4, "a wrong feed on 160", x.feed(1, 1, 1, 1, 1, 256), -2);
        // In their order, one by one: what is read of them shows it.
        InsuredAgainstLuck y = Calls.under("odds 12;sizes 345;seen 67;", 0);
        Due.is(4, "odds as fed", y.windfall(0, 0), 12);
        Due.is(4, "sizes as fed", y.windfall(0, 1), 345);
        Due.is(4, "seen as fed", y.windfall(0, 3), 67);
    }

    private static void readsTexts() {
        InsuredAgainstLuck x = new InsuredAgainstLuck();
        for (int t = 1; t < 6; t++) {
            Due.is(5, "text() " + t, Calls.read(x, "\n odds20+more;sizes(100+luck*10);seen - -30; \n"), t);
            Due.is(5, "the tape is empty then", x.count(7), 0);
        }
        Calls.feed(x, "odd");
        Due.is(5, "text() when there are 6", x.text(), -4);
        Due.is(5, "the tape stays", x.count(7), 3);
        Due.is(5, "count(5)", x.count(5), 6);
    }

    private static void fault(String text, int place) {
        InsuredAgainstLuck x = new InsuredAgainstLuck();
        Due.is(5, "text() of '" + text + "'", Calls.read(x, text), -100 - place);
        Due.is(5, "the tape is empty behind a fault", x.count(7), 0);
        Due.is(5, "no text came", x.count(5), 1);
        Due.is(5, "a text behind a fault", Calls.read(x, "odds 1;sizes 2;seen 3;"), 1);
    }

    private static void placesOfFaults() {
        fault("", 0);
        fault("   ", 3);
        fault("odds", 4);
        fault("odds 1; sizes 2; seen 3", 23);
        fault("odds 1; sizes 2; seen 3 \n", 25);
        fault("odds 1; sizes 2; seen 3;;", 24);
        fault("odds 1; sizes 2; seen 3; odds", 25);
        fault("sizes 1;", 0);
        fault("odds 1; seen 2;", 8);
        fault("odds ;", 5);
        fault("odds 1 2;", 7);
        fault("odds or;", 5);
        fault("odds seen;", 5);
        fault("odds luckmore;", 5);
        fault("odds luc;", 5);
        fault("odds 1 or ;", 10);
        fault("odds 1 and or", 11);
        fault("odds 1 < 2 < 3;", 11);
        fault("odds 1 = 2 = 3;", 11);
        fault("odds 1 < not 2;", 9);
        fault("odds 1 + not 2;", 9);
        fault("odds (not 1) + not 2;", 15);
        fault("odds 1 + + 2;", 9);
        fault("odds 1 * < 2;", 9);
        fault("odds (1;", 7);
        fault("odds 1);", 6);
        fault("odds ();", 6);
        fault("odds 12345;", 5);
        fault("odds 00000;", 5);
        fault("odds 1 12345;", 7);
        fault("odds Luck;", 5);
        fault("odds luckX;", 9);
        fault("odds 1\t;", 6);
        fault("odds 1 / 2;", 7);
        fault("odds 1 > 2;", 7);
        fault("odds \u00ff;", 5);
        fault("odds \u0000;", 5);
        fault("odds 1, 2;", 6);
    }

    private static void wordsAlmostRight() {
        String[] words = {"year", "luck", "more", "excess", "share", "much"};
        for (String word : words) {
            for (int i = 0; i < word.length(); i++) {
                fault("odds 1+" + word.substring(0, i) + "z" + word.substring(i + 1) + ";", 7);
            }
            fault("odds 1+" + word + "s;", 7);
            fault("odds 1+" + word.substring(1) + ";", 7);
            fault("odds 1+" + word, 7 + word.length());
        }
        fault("oddz 1;", 0);
        fault("odds 1;sixes 1;", 7);
        fault("odds 1;sizes 1;sean 1;", 15);
        fault("odds 1 of 1;", 7);
        fault("odds 1 ant 1;", 7);
        fault("odds nit 1;", 5);
        // A tape that is full ends behind its 160th byte.
        StringBuilder full = new StringBuilder("odds 11");
        while (full.length() < 155) {
            full.append("+1");
        }
        fault(full + "+luck", 160);
        fault(full + "+1234", 160);
        fault(full.substring(0, 153) + "+123456", 154);
    }

    private static void tooManyOpen() {
        fault("odds ((((((1))))));", 10);
        fault("odds not not not not not not 1;", 25);
        fault("odds ------1;", 10);
        fault("odds 1 - ------1;", 14);
        fault("odds not -(not -((1)));", 16);
        fault("odds not 1 < (((((1)))));", 17);
        fault("odds (((((not 1)))));", 10);
        fault("odds (((((-1)))));", 10);
        String[] fine = {"(((((1)))))", "not not not not not 1", "- - - - -1", "1------1", "-1+(((((1)))))", "not 1 or (((((1)))))",
            "not ((((1)))) and -----1", "(((((1-1)))))", "(1)+(1)+(1)+(1)+(1)+(1)+(1)", "-1*-1*-1*-1*-1*-1*-1", "not 1<((((2))))"};
        for (String e : fine) {
            InsuredAgainstLuck x = new InsuredAgainstLuck();
            Due.is(5, "text() with " + e, Calls.read(x, "odds " + e + ";sizes 1;seen 2;"), 1);
        }
    }

    private static void forces() {
        InsuredAgainstLuck x = new InsuredAgainstLuck();
        x.life(0, 0, 0);
        Due.is(6, "force(1), no such", x.force(1), -2);
        Due.is(6, "force(-1)", x.force(-1), -2);
        Calls.read(x, "odds 1;sizes 2;seen 3;");
        Due.is(6, "a text is no law yet", x.windfall(0, 0), 20);
        Due.is(6, "force(1)", x.force(1), 0);
        Due.is(6, "by the new law", x.windfall(0, 0), 1);
        Due.is(6, "force(2)", x.force(2), -2);
        Due.is(6, "force(0)", x.force(0), 1);
        Due.is(6, "by the old law", x.windfall(0, 0), 20);
        Due.is(6, "force(0), again", x.force(0), 0);
    }

    private static void asksTheLaw() {
        InsuredAgainstLuck x = new InsuredAgainstLuck();
        x.life(17, 5, 3);
        Due.is(7, "asks(0, ..)", x.asks(0, 0, 0, 0), 27);
        Due.is(7, "asks(1, ..)", x.asks(1, 0, 1234, 0), 440);
        Due.is(7, "asks(1, ..) at 99, 99", x.asks(1, 0, 9999, 999), 999);
        Due.is(7, "asks(2, ..)", x.asks(2, 0, 0, 999), 30);
        int[][] wrong = {{-1, 0, 0, 0}, {3, 0, 0, 0}, {0, 1, 0, 0}, {0, -1, 0, 0}, {0, 0, -1, 0}, {0, 0, 10000, 0},
            {0, 0, 0, -1}, {0, 0, 0, 1000}};
        for (int[] w : wrong) {
            Due.is(7, "asks(" + w[0] + ", " + w[1] + ", " + w[2] + ", " + w[3] + ")", x.asks(w[0], w[1], w[2], w[3]), -2);
        }
        InsuredAgainstLuck y = Calls.under("odds 0-1;sizes year*9+luck;seen 101;", 0);
        Due.is(7, "below the bound", y.asks(0, 0, 0, 0), 0);
        Due.is(7, "year and luck", y.asks(1, 0, 4107, 0), 376);
        Due.is(7, "year 99, luck 0", y.asks(1, 0, 9900, 0), 891);
        Due.is(7, "above the bound", y.asks(2, 0, 0, 0), 100);
        Due.is(7, "sizes' bound", Calls.under("odds 0;sizes 1000;seen 0;", 0).asks(1, 0, 0, 0), 999);
        InsuredAgainstLuck z = Calls.under("odds much;sizes more*100+excess+share;seen much-900;", 53);
        Due.is(7, "much, of whatever part", z.asks(0, 0, 0, 77), 77);
        Due.is(7, "more, excess, share", z.asks(1, 0, 0, 0), 360);
        z.put(0, 1, 11);
        z.put(0, 2, 22);
        Due.is(7, "more, excess, share, put", z.asks(1, 0, 0, 0), 333);
        Due.is(7, "much, of seen", z.asks(2, 0, 0, 950), 50);
        Due.is(7, "elsewhere much is 0", z.windfall(0, 0), 0);
    }

    private static void reckons(String e, int want) {
        InsuredAgainstLuck x = Calls.under("odds 0;sizes " + e + ";seen 0;", 7);
        Due.is(7, "sizes " + e, x.asks(1, 0, 203, 5), want);
    }

    private static void reckonsExpressions() {
        reckons("1+2*3", 7);
        reckons("(1+2)*3", 9);
        reckons("10-4-3", 3);
        reckons("10-(4-3)", 9);
        reckons("-2*-3", 6);
        reckons("- 5 + 9", 4);
        reckons("7 or 0", 1);
        reckons("0 or 0", 0);
        reckons("7 and 9", 1);
        reckons("1 and 1", 1);
        reckons("7 and 0", 0);
        reckons("1 or 0 and 0", 1);
        reckons("(1 or 0) and 0", 0);
        reckons("not 0", 1);
        reckons("not 7", 0);
        reckons("not not 7", 1);
        reckons("not 1 < 0", 1);
        reckons("(not 1) + 5", 5);
        reckons("not 0 and 0", 0);
        reckons("2 < 3", 1);
        reckons("3 < 3", 0);
        reckons("3 = 3", 1);
        reckons("2 = 3", 0);
        reckons("1 + 1 < 1 * 3", 1);
        reckons("-1 < 0", 1);
        reckons("year*100+luck*10+more", 237);
        reckons("much", 5);
        reckons("0010", 10);
        // 9999 cubed wraps to -1027349969; three times that wraps to 1212917389.
        reckons("9999*9999*9999 < 0", 1);
        reckons("9999*9999*9999*3 < 0", 0);
        reckons("0-(9999*9999*9999+1027*9999*100)-452*1000", 669);
    }
}
