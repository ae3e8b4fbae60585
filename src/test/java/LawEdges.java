/** The edges of promises 1 to 7, a sentence of the document each: a new object, the law and its texts. */
final class LawEdges {
    private static final String NINES = "9999*9999";
    /** The greatest int: 9999 squared, 21 times, and 47903626. */
    private static final String MOST_INT = "(" + NINES + "*21+9999*4790+8416)";

    private LawEdges() {
    }

    static void run() {
        aNewObject();
        counts();
        goalAndPoor();
        feedsOneToFive();
        fiveBytesOf0To255();
        aTapeOf160();
        sixTexts();
        aFaultEmptiesTheTape();
        wordsAreAsLongAsCanBe();
        wordsThatAreNeither();
        keysAndNamesInTheirPlaces();
        numbersAreAsLongAsCanBe();
        eachByteBehindANumber();
        eachByteWithinAWord();
        blanksMayStandBetween();
        textsThatEndTooEarly();
        textsThatEndWithTheTape();
        theFirstTokenThatCantStandThere();
        whatAnEIsMadeOf();
        sixOpen();
        whatOpensEnds();
        anEIsAnInt();
        whatIsNot0IsTrue();
        forces();
        asks();
        boundsOfWhatTextsSay();
        namesInTexts();
    }

    private static void aNewObject() {
        // YEAR 0 at first, FUND 0, GOAL 1000, POOR 50; TEXT 0, at first, and THE LAW; no LIVES, no image, no SHEETS.
        int[] counts = {0, 0, 0, 1000, 50, 1, 0, 0};
        for (int what = 0; what < counts.length; what++) {
            Scene.NEW.answers(1, "count " + what, counts[what]);
        }
        Scene.NEW.answers(1, "told 0 0", -5);
        Scene.NEW.answers(1, "taken 0 0", -11);
        Scene.NEW.answers(1, "back", -3);
        for (int s = 0; s < 4; s++) {
            Scene.NEW.answers(1, "cell " + s + " 0 0", -11);
        }
        Scene one = new Scene("life 9 0 0");
        one.answers(1, "asks 0 0 0 0", 29);
        one.answers(1, "asks 1 0 7 0", 170);
        one.answers(1, "asks 2 0 0 0", 30);
    }

    private static void counts() {
        Scene.NEW.ends(2, "count #", 0, 0, 7, 0, -2);
        Scene.TOWN.ends(2, "count #", 0, 3, 7, 21, -2);
        Scene.FULL.ends(2, "count #", 0, 5, 7, 160, -2);
        int[] town = {3, 1, 40, 1000, 50, 2, 1, 21};
        int[] full = {5, 0, 0, 1000, 50, 6, 0, 160};
        for (int what = 0; what < town.length; what++) {
            Scene.TOWN.unchanged(2, "count " + what, town[what]);
            Scene.FULL.unchanged(2, "count " + what, full[what]);
        }
    }

    private static void goalAndPoor() {
        // GOAL and POOR are 0 .. 99999. -5: what; -7: v; of several the first one told.
        Scene.TOWN.ends(3, "set 0 #", 0, 1000, 99999, 1000, -7);
        Scene.TOWN.ends(3, "set 1 #", 0, 50, 99999, 50, -7);
        Scene.TOWN.ends(3, "set # 5", 0, 1000, 1, 50, -5);
        Scene.TOWN.becomes(3, "set 0 0", 1000, "count 3", 0);
        Scene.TOWN.becomes(3, "set 0 99999", 1000, "count 3", 99999);
        Scene.TOWN.becomes(3, "set 1 0", 50, "count 4", 0);
        Scene.TOWN.becomes(3, "set 1 99999", 50, "count 4", 99999);
        Scene.TOWN.becomes(3, "set 0 7", 1000, "count 4", 50);
        Scene.TOWN.becomes(3, "set 1 7", 50, "count 3", 1000);
        Scene.TOWN.becomes(3, "set 0 7", 1000, "set 0 8", 7);
        Scene.TOWN.unchanged(3, "set -1 -1", -5);
        Scene.TOWN.unchanged(3, "set 2 100000", -5);
    }

    private static void feedsOneToFive() {
        // The first n (1 .. 5): how many it has. BAD: n.
        Scene.TOWN.ends(4, "feed # 97 98 99 100 101", 1, 22, 5, 26, -2);
        for (int n = 1; n <= 5; n++) {
            Scene.NEW.becomes(4, "feed " + n + " 1 2 3 4 5", n, "count 7", n);
        }
        // One by one, and only the first n: what is read shows it.
        Scene.NEW.then("feed 5 111 100 100 115 32", "feed 3 49 50 59 51 52", "type sizes 1;seen 1;")
            .becomes(4, "text", 1, "force 1", 0);
        Scene fed = new Scene("feed 1 111 1 1 1 1", "feed 2 100 100 1 1 1", "feed 3 115 32 49 1 1", "feed 4 50 59 115 105 1",
            "feed 5 122 101 115 32 51", "type 4;seen 56;", "text", "force 1", "life 0 0 0");
        fed.answers(4, "asks 0 0 0 0", 12);
        fed.answers(4, "asks 1 0 0 0", 34);
        fed.answers(4, "asks 2 0 0 0", 56);
    }

    private static void fiveBytesOf0To255() {
        // Five bytes (0 .. 255 each). BAD: any of the five, also those that don't come.
        for (int n = 1; n <= 5; n++) {
            for (int place = 0; place < 5; place++) {
                String call = "feed " + n;
                for (int i = 0; i < 5; i++) {
                    call += i == place ? " #" : " 7";
                }
                Scene.TOWN.ends(4, call, 0, 21 + n, 255, 21 + n, -2);
            }
        }
    }

    private static void aTapeOf160() {
        // 160 bytes at most. FULL: they have not all room (none comes).
        Scene at155 = new Scene("31 times feed 5 97 97 97 97 97");
        for (int n = 1; n <= 5; n++) {
            at155.becomes(4, "feed " + n + " 1 1 1 1 1", 155 + n, "count 7", 155 + n);
            for (int had = 156; had <= 160; had++) {
                Scene s = at155.then("feed " + (had - 155) + " 98 98 98 98 98");
                if (had + n <= 160) {
                    s.becomes(4, "feed " + n + " 1 1 1 1 1", had + n, "count 7", had + n);
                } else {
                    s.unchanged(4, "feed " + n + " 1 1 1 1 1", -4);
                }
            }
        }
        // BAD is told ahead of FULL.
        Scene.FULL.unchanged(4, "feed 1 1 1 1 1 1", -4);
        Scene.FULL.unchanged(4, "feed 0 1 1 1 1 1", -2);
        Scene.FULL.unchanged(4, "feed 6 1 1 1 1 1", -2);
        Scene.FULL.unchanged(4, "feed 1 1 1 1 1 256", -2);
        // What was read makes room.
        at155.then("feed 5 1 1 1 1 1", "text").becomes(4, "feed 5 1 1 1 1 1", 5, "count 7", 5);
    }

    private static void sixTexts() {
        // TEXTS are numbered from 0 on, 6 at most. FULL (ahead of the FAULT; then THE TAPE stays).
        String text = "odds 1;sizes 2;seen 3;";
        for (int t = 1; t <= 5; t++) {
            Scene s = new Scene("life 0 0 0", (t - 1) + " times read " + text, "type odds 10+" + t + ";sizes 2;seen 3;");
            s.becomes(5, "text", t, "count 5", t + 1);
            s.becomes(5, "text", t, "count 6", 0);
            s.then("text", "force " + t).answers(5, "asks 0 0 0 0", 10 + t);
        }
        Scene six = new Scene("life 0 0 0", "5 times read " + text);
        six.then("type " + text).unchanged(5, "text", -4);
        six.then("type " + text).becomes(5, "text", -4, "count 7", text.length());
        six.then("type odds !").unchanged(5, "text", -4);
        six.then("type odds !").becomes(5, "text", -4, "count 7", 6);
        six.becomes(5, "text", -4, "count 7", 0);
        six.then("text").becomes(5, "text", -4, "count 5", 6);
        Scene.FULL.unchanged(5, "text", -4);
    }

    private static void aFaultEmptiesTheTape() {
        // THE TAPE, which is empty then (by a FAULT, too).
        Scene fault = new Scene("type odds 1;sizes (2");
        fault.becomes(5, "text", -115, "count 7", 0);
        fault.becomes(5, "text", -115, "count 5", 1);
        fault.becomes(5, "text", -115, "text", -100);
        fault.becomes(5, "text", -115, "feed 1 1 1 1 1 1", 1);
        new Scene("type odds 1;sizes 2;seen 3;").becomes(5, "text", 1, "count 7", 0);
        // What was open at a FAULT is not open in the next TEXT.
        String[] faults = {"odds (((((1", "odds not not not not not", "odds -----", "odds 1;sizes 2;seen ((-(-(1)"};
        for (String f : faults) {
            fine(new Scene("read " + f), "odds (((((1)))));sizes -----1;seen not not not not not 1;");
        }
        // Nor is anything of a long TEXT in the next one.
        Scene two = new Scene("life 0 0 0", "read " + longest("5"), "read " + longest("7"), "force 2");
        two.answers(5, "asks 2 0 0 0", 67);
        two.then("force 1").answers(5, "asks 2 0 0 0", 65);
    }

    /** A TEXT of 160 bytes: sizes 0, seen 60 and what is told. */
    private static String longest(String last) {
        StringBuilder text = new StringBuilder("odds 1;sizes 0;seen ");
        for (int i = 0; i < 60; i++) {
            text.append("1+");
        }
        text.append(last).append(";");
        while (text.length() < 160) {
            text.append(' ');
        }
        return text.toString();
    }

    private static void fine(Scene ahead, String text) {
        ahead.then("type " + text).becomes(5, "text", 1, "count 7", 0);
    }

    private static void fine(String text) {
        fine(Scene.NEW, text);
    }

    /** Such an E is read, in each of the three parts. */
    private static void fineE(String e) {
        fine("odds " + e + ";sizes 1;seen 1;");
        fine("odds 1;sizes " + e + ";seen 1;");
        fine("odds 1;sizes 1;seen " + e + ";");
    }

    private static void fault(String text, int place) {
        Scene s = new Scene("type " + text);
        s.becomes(5, "text", -100 - place, "count 5", 1);
        s.becomes(5, "text", -100 - place, "count 7", 0);
    }

    /** Such an E has its FAULT at a place of it, in each of the three parts. */
    private static void faultE(String e, int place) {
        String[] aheads = {"odds ", "odds 1;sizes ", "odds 1;sizes 1;seen "};
        for (String ahead : aheads) {
            fault(ahead + e + ";sizes 1;seen 1;", ahead.length() + place);
        }
    }

    private static void says(String e, int want) {
        Scene s = new Scene("life 7 0 0", "law odds 0;sizes " + e + ";seen 0;");
        s.answers(7, "asks 1 0 203 5", want);
    }

    private static void wordsAreAsLongAsCanBe() {
        fault("oddsizes 1;", 0);
        fault("oddsyear;sizes 1;seen 1;", 0);
        fault("od ds 1;", 0);
        faultE("notyear", 0);
        faultE("yearluck", 0);
        faultE("1 orluck", 2);
        faultE("1 andnot 1", 2);
        faultE("ye ar", 0);
        fine("odds1;sizes1;seen1;");
        fine("odds(1);sizes-1;seen not(1);");
        fineE("1or 1and not 1");
        fineE("1 or1");
        fineE("year<luck");
        fineE("(year)or(luck)and(more)");
    }

    private static void wordsThatAreNeither() {
        // A WORD that is neither KEY nor NAME.
        String[] neither = {"a", "z", "abc", "yea", "years", "yeart", "lucky", "mor", "mores", "exces", "excesss", "shar", "shares",
            "muc", "muchh", "o", "orr", "an", "ands", "no", "nott", "odd", "oddss", "size", "sizess", "see", "seens"};
        for (String word : neither) {
            faultE(word, 0);
            faultE("1 " + word + " 1", 2);
            fault(word + " 1;sizes 1;seen 1;", 0);
        }
        // Each letter counts, the first and the last, too.
        for (String word : new String[] {"odds", "sizes", "seen"}) {
            for (int i = 0; i < word.length(); i++) {
                String other = word.substring(0, i) + "q" + word.substring(i + 1);
                String text = "odds 1;sizes 1;seen 1;";
                fault(text.replace(word, other), text.indexOf(word));
            }
        }
        for (String word : new String[] {"year", "luck", "more", "excess", "share", "much", "or", "and", "not"}) {
            for (int i = 0; i < word.length(); i++) {
                faultE("1 " + word.substring(0, i) + "q" + word.substring(i + 1) + " 1", 2);
                faultE(word.substring(0, i) + "q" + word.substring(i + 1), 0);
            }
        }
    }

    private static void keysAndNamesInTheirPlaces() {
        // A KEY where a NAME is due, and a NAME where a KEY is.
        for (String key : new String[] {"odds", "sizes", "seen", "or", "and"}) {
            faultE(key, 0);
            faultE("1+" + key, 2);
        }
        // A KEY where another one is due.
        String[] keys = {"odds", "sizes", "seen", "or", "and", "not"};
        String whole = "odds 1;sizes 1;seen 1;";
        for (String key : keys) {
            for (int part = 0; part <= 2; part++) {
                if (!key.equals(keys[part])) {
                    fault(whole.replace(keys[part], key), whole.indexOf(keys[part]));
                }
            }
            if (!key.equals("or") && !key.equals("and")) {
                faultE("1 " + key + " 1", 2);
                faultE("1<2 " + key + " 1", 4);
            }
        }
        for (String name : new String[] {"year", "luck", "more", "excess", "share", "much"}) {
            fineE(name);
            fault(name + " 1;", 0);
            faultE("1 " + name, 2);
        }
    }

    private static void numbersAreAsLongAsCanBe() {
        // NUMBERS (as many digits as stand there; more than 4 are too long).
        fineE("0");
        fineE("9999");
        fineE("0000");
        faultE("10000", 0);
        faultE("00000", 0);
        faultE("000000000000", 0);
        faultE("1+99999", 2);
        faultE("9999 9999", 5);
        faultE("12345+", 0);
        says("0999", 999);
        says("9999-9001", 998);
        says("0007", 7);
        says("9-8", 1);
        // As soon as it can't stand there, too: the place is the same.
        faultE("1 22222", 2);
    }

    private static void eachByteBehindANumber() {
        for (int b = 0; b < 256; b++) {
            char c = (char) b;
            String text = "odds 1" + c + ";sizes 1;seen 1;";
            if (b == 32 || b == 10 || c >= '0' && c <= '9') {
                fine(text);
            } else if ("+-*<=;".indexOf(c) >= 0) {
                // It stands there; the ; behind it can't.
                fault(text, 7);
            } else {
                // A sign that can't stand there, a WORD that is none, or a byte that begins none.
                fault(text, 6);
            }
        }
    }

    private static void eachByteWithinAWord() {
        for (int b = 0; b < 256; b++) {
            char c = (char) b;
            String text = "odds luck" + c + "+1;sizes 1;seen 1;";
            if (b == 32 || b == 10) {
                fine(text);
            } else if (c >= 'a' && c <= 'z') {
                fault(text, 5);
            } else if ("+-*<=;".indexOf(c) >= 0) {
                // It stands there; the + behind it can't.
                fault(text, 10);
            } else {
                fault(text, 9);
            }
        }
        // A byte that begins none, also where nothing else could stand either.
        for (char c : new char[] {0, 9, 11, 13, 31, 33, '`', '{', '@', 'A', 'Z', '[', '/', ':', 127, 128, 160, 255}) {
            fault(c + "odds 1;", 0);
            fault("odds 1;sizes 1;seen 1;" + c, 22);
            fault("odds " + c + ";", 5);
        }
    }

    private static void blanksMayStandBetween() {
        // Blanks (32, 10) may stand between: anywhere but within a TOKEN, also ahead of the first and behind the last.
        fine(" \n odds\n1 \n;\n\nsizes  1 ; seen\n\n1\n;\n \n");
        fine("odds1;sizes1;seen1;");
        fine("odds ( - 1 ) * ( not 2 ) < 3 ;sizes 1;seen 1;");
        fineE("1 or\n1 and\nnot\n1\n<\n2");
        fault("odds 1 1;", 7);
        fault("odds 1\n1;", 7);
        fault(" \n odds\n x;", 9);
        fault("  sizes 1;", 2);
        fault("odds\t1;", 4);
        fault("odds\r1;", 4);
    }

    private static void textsThatEndTooEarly() {
        // The text's size, if it ends too early: behind each TOKEN, and behind blanks.
        String[] tokens = {"odds", "not", "1", "<", "(", "2", "+", "luck", ")", "*", "-", "3", ";", "sizes", "4", "or", "5", ";", "seen",
            "6", "and", "7", "="};
        StringBuilder text = new StringBuilder();
        fault("", 0);
        fault(" ", 1);
        fault("\n\n\n", 3);
        for (String token : tokens) {
            text.append(token);
            fault(text.toString(), text.length());
            fault(text + " \n ", text.length() + 3);
            text.append(' ');
        }
        text.append("8");
        fault(text.toString(), text.length());
        fine(text + ";");
    }

    private static void textsThatEndWithTheTape() {
        // It ends behind its 160th byte, too.
        StringBuilder full = new StringBuilder("odds 1");
        while (full.length() < 160) {
            full.append("+1");
        }
        fault(full.toString(), 160);
        fault(full.substring(0, 158) + "+1", 160);
        fault(full.substring(0, 159) + "!", 159);
        fault(full.substring(0, 159) + "+", 159 + (full.charAt(158) == '+' ? 0 : 1));
        fine(full.substring(0, 144) + ";sizes 1;seen 1;");
        fault(full.substring(0, 144) + ";sizes 1;seen 11", 160);
        // A TOKEN that ends with it is read whole.
        for (String last : new String[] {"year", "luck", "more", "excess", "share", "much", "9999", "0"}) {
            String ahead = "odds 1" + " ".repeat(153 - last.length()) + "+";
            fault(ahead + last, 160);
            fault(ahead + "x".repeat(last.length()), 160 - last.length());
            fault(ahead + "1".repeat(last.length()), last.length() > 4 ? 160 - last.length() : 160);
        }
    }

    private static void theFirstTokenThatCantStandThere() {
        // TEXT: odds E ; sizes E ; seen E ; and nothing behind it.
        fault("sizes 1;odds 1;seen 1;", 0);
        fault("odds 1;seen 1;", 7);
        fault("odds 1;odds 1;", 7);
        fault("odds 1;sizes 1;sizes 1;", 15);
        fault("odds 1 sizes 1;seen 1;", 7);
        fault("odds 1;sizes 1;seen 1;;", 22);
        fault("odds 1;sizes 1;seen 1; 1", 23);
        // Whatever stands behind it can't, right behind it and behind blanks.
        for (String behind : new String[] {"odds", "sizes", "seen", "or", "and", "not", "year", "luck", "much", "abc", "1", "12345", "00000", "(", ")",
            ";", "+", "-", "*", "<", "=", "!", "A", "\t"}) {
            fault("odds 1;sizes 1;seen 1;" + behind, 22);
            fault("odds 1;sizes 1;seen 1;\n " + behind + " ", 24);
        }
        fault("odds;", 4);
        fault(";", 0);
        fault("1", 0);
        // Of two FAULTS the first; a later one is not come to.
        fault("odds 1 1 12345;", 7);
        fault("odds ! (((((((1", 5);
        fault("odds 12345 !;", 5);
        fault("odds 1;sises 12345;", 7);
    }

    private static void whatAnEIsMadeOf() {
        // NOT: SUM, perhaps < or = and a SUM: one of these, not two.
        faultE("1<2<3", 3);
        faultE("1<2=3", 3);
        faultE("1=2<3", 3);
        faultE("1=2=3", 3);
        fineE("(1<2)<3");
        fineE("1<(2<3)");
        fineE("1<2 or 3<4 and 5=6");
        faultE("1<not 2", 2);
        faultE("1=not 2", 2);
        faultE("1+not 2", 2);
        faultE("1*not 2", 2);
        faultE("-not 2", 1);
        fineE("-(not 2)");
        fineE("1<-2");
        fineE("1- -2");
        fineE("1--2");
        fineE("1*-2");
        faultE("+1", 0);
        faultE("*1", 0);
        faultE("<1", 0);
        faultE("=1", 0);
        faultE(")", 0);
        faultE("()", 1);
        faultE("(1", 2);
        faultE("(1))", 3);
        faultE("1)", 1);
        faultE("(1 2)", 3);
        faultE("1+", 2);
        faultE("1*", 2);
        faultE("1<", 2);
        faultE("1 or", 4);
        faultE("1 and", 5);
        faultE("not", 3);
        faultE("-", 1);
        faultE("1++2", 2);
        faultE("1**2", 2);
        faultE("1<<2", 2);
        faultE("1 or or 2", 5);
        faultE("1 or and 2", 5);
        faultE("1 and or 2", 6);
        faultE("1(2)", 1);
        faultE("luck(2)", 4);
        faultE("(1)2", 3);
        faultE("(1)(2)", 3);
        faultE("1 not 2", 2);
    }

    private static void sixOpen() {
        // A ( , a not, a - ahead of a ONE while 5 of these are open.
        String[] fives = {"(((((", "-----", "not not not not not ", "not(-(-", "((((-", "-(-((", "not -(((", "not not not -("};
        for (String five : fives) {
            String closes = ")".repeat((int) five.chars().filter(c -> c == '(').count());
            fineE(five + "1" + closes);
            fineE(five + "luck" + closes);
            faultE(five + "(1)" + closes, five.length());
            faultE(five + "-1" + closes, five.length());
            if (five.endsWith("(") || five.endsWith("not ")) {
                faultE(five + "not 1" + closes, five.length());
            }
            // A - behind a ONE is none of these.
            fineE(five + "1-1+1" + closes);
            // Of what can't stand there anyway the place is the same.
            faultE(five + ")" + closes, five.length());
        }
        faultE("((((((((((1", 5);
        faultE("----------1", 5);
        faultE("1+((((((1))))))", 7);
        faultE("1------1-------1", 14);
        faultE("(((1)))+(((((((1", 13);
    }

    private static void whatOpensEnds() {
        // A ( till its ), not and - till what they belong to ends.
        fineE("(((((1)))))+(((((1)))))");
        fineE("((((1)+(1))+((1)))+(1))");
        faultE("(((((1)+(1)))))+((((((1", 20 + 1);
        fineE("-----1+-----1*-----1");
        fineE("-1*(((((1)))))");
        fineE("-(1)*(((((1)))))");
        fineE("-1-(((((1)))))");
        faultE("-(((((1)))))", 5);
        fineE("-((((1))))");
        // What a - belongs to is a ONE: ahead of a * it has ended.
        fineE("(-1*-1*-1*-1*-1*-1)");
        fineE("((((-1+(1)))))");
        // What a not belongs to is a NOT: a whole SUM < SUM, but no and, no or.
        faultE("not 1<(((((1)))))", 10);
        fineE("not 1<((((1))))");
        faultE("not 1+1*1-(((((1)))))", 14);
        fineE("not 1 and (((((1)))))");
        fineE("not 1 or (((((1)))))");
        fineE("not not not not not 1 and not not not not not 1 or not not not not not 1");
        faultE("not(not 1 and ((((1))))", 17);
        fineE("not(not 1 and (((1))))");
        faultE("not -1=-----1", 11);
        fineE("not -1=----1");
    }

    private static void anEIsAnInt() {
        // An E is an int (32 bits, wrapping).
        says("0<" + MOST_INT, 1);
        says(MOST_INT + "+1<0", 1);
        says(MOST_INT + "+0<0", 0);
        says("-" + MOST_INT + "-1<0", 1);
        says("-" + MOST_INT + "-2=" + MOST_INT, 1);
        says("-(-" + MOST_INT + "-1)=-" + MOST_INT + "-1", 1);
        says("-(-" + MOST_INT + "-1)<0", 1);
        says("256*256*256*128<0", 1);
        says("256*256*256*128=-" + MOST_INT + "-1", 1);
        says("256*256*256*256", 0);
        says("256*256*256*256+5", 5);
        says("(" + MOST_INT + "+1)*2+3", 3);
        // 46340 squared is an int, 46341 squared is above.
        says("0<(9999*4+6344)*(9999*4+6344)", 1);
        says("0<(9999*4+6345)*(9999*4+6345)", 0);
        // Compared as ints, not by a difference that wraps.
        says("-" + MOST_INT + "<" + MOST_INT, 1);
        says(MOST_INT + "<-" + MOST_INT, 0);
        says("-" + MOST_INT + "-1<1", 1);
    }

    private static void whatIsNot0IsTrue() {
        // Of or, and, not, <, = 1 or 0 (what is not 0 is true).
        int[] values = {0, 1, -1, 2, 9999};
        for (int a : values) {
            String left = "(0+" + a + ")";
            left = left.replace("+-", "-");
            says("not " + left, a == 0 ? 1 : 0);
            says("5+(not " + left + ")", a == 0 ? 6 : 5);
            for (int b : values) {
                String right = ("(0+" + b + ")").replace("+-", "-");
                says(left + " or " + right, a != 0 || b != 0 ? 1 : 0);
                says(left + " and " + right, a != 0 && b != 0 ? 1 : 0);
                says(left + "<" + right, a < b ? 1 : 0);
                says(left + "=" + right, a == b ? 1 : 0);
                // Just 0, not something below.
                says("5+(" + left + " or " + right + ")", a != 0 || b != 0 ? 6 : 5);
                says("5+(" + left + " and " + right + ")", a != 0 && b != 0 ? 6 : 5);
                says("5+(" + left + "<" + right + ")", a < b ? 6 : 5);
                says("5+(" + left + "=" + right + ")", a == b ? 6 : 5);
            }
        }
    }

    private static void forces() {
        // A TEXT is THE LAW: which was. BAD.
        Scene.NEW.ends(6, "force #", 0, 0, 0, 0, -2);
        Scene.TOWN.ends(6, "force #", 0, 1, 1, 1, -2);
        Scene.FULL.ends(6, "force #", 0, 0, 5, 0, -2);
        Scene.TOWN.becomes(6, "force 0", 1, "count 6", 0);
        Scene.TOWN.unchanged(6, "force 1", 1);
        Scene.FULL.becomes(6, "force 5", 0, "count 6", 5);
        Scene.FULL.becomes(6, "force 5", 0, "windfall 0 0", 10);
        Scene.FULL.becomes(6, "force 6", -2, "windfall 0 0", 20);
    }

    private static void asks() {
        // A LIFE; 100 times year, 0 .. 99, and luck, 0 .. 99; much 0 .. 999. BAD.
        Scene.TOWN.ends(7, "asks # 0 0 0", 0, 40, 2, 25, -2);
        Scene.TOWN.ends(7, "asks 1 # 0 0", 0, 90, 2, 90, -2);
        Scene.TOWN.ends(7, "asks 1 0 # 0", 0, 90, 9999, 585, -2);
        Scene.TOWN.ends(7, "asks 2 0 0 #", 0, 25, 999, 25, -2);
        Scene.TOWN.ends(7, "asks 0 0 0 #", 0, 40, 999, 40, -2);
        Scene.FULL.ends(7, "asks 1 # 0 0", 0, 100, 4, 100, -2);
        Scene.NEW.unchanged(7, "asks 0 0 0 0", -2);
        Scene.TOWN.unchanged(7, "asks 1 2 9999 999", 585);
        Scene s = new Scene("life 0 0 0", "law odds year;sizes luck*10;seen much;");
        s.answers(7, "asks 0 0 99 0", 0);
        s.answers(7, "asks 1 0 99 0", 990);
        s.answers(7, "asks 0 0 100 0", 1);
        s.answers(7, "asks 1 0 100 0", 0);
        s.answers(7, "asks 0 0 9900 0", 99);
        s.answers(7, "asks 1 0 9900 0", 0);
        // Not by the LIFE's LUCK, nor by the YEAR that is.
        s.then("put 0 5 7", "live 1").answers(7, "asks 1 0 203 0", 30);
        s.then("put 0 5 7", "live 1").answers(7, "asks 0 0 203 0", 2);
        // Much, as it is told, of whatever part.
        Scene much = new Scene("life 50 0 0", "law odds much;sizes much;seen much;");
        for (int part = 0; part <= 2; part++) {
            much.answers(7, "asks " + part + " 0 0 0", 0);
            much.answers(7, "asks " + part + " 0 0 77", 77);
            much.answers(7, "asks " + part + " 0 0 999", part == 1 ? 999 : 100);
        }
    }

    private static void boundsOfWhatTextsSay() {
        // Odds, seen 0 .. 100, sizes 0 .. 999, else the bound.
        int[][] said = {{-9999, 0, 0}, {-1, 0, 0}, {0, 0, 0}, {1, 1, 1}, {99, 99, 99}, {100, 100, 100}, {101, 100, 101},
            {998, 100, 998}, {999, 100, 999}, {1000, 100, 999}, {9999, 100, 999}};
        for (int[] s : said) {
            String e = ("0+" + s[0]).replace("+-", "-");
            Scene x = new Scene("life 0 0 0", "law odds " + e + ";sizes " + e + ";seen " + e + ";");
            for (int part = 0; part <= 2; part++) {
                x.answers(7, "asks " + part + " 0 0 0", part == 1 ? s[2] : s[1]);
            }
            x.answers(11, "windfall 0 0", s[1]);
            x.answers(11, "windfall 0 1", s[2]);
            x.answers(11, "windfall 0 3", s[1]);
        }
        Scene most = new Scene("life 0 0 0", "law odds " + MOST_INT + ";sizes " + MOST_INT + ";seen 1;");
        most.answers(7, "asks 0 0 0 0", 100);
        most.answers(7, "asks 1 0 0 0", 999);
        Scene least = new Scene("life 0 0 0", "law odds " + MOST_INT + "+1;sizes " + MOST_INT + "+1;seen 1;");
        least.answers(7, "asks 0 0 0 0", 0);
        least.answers(7, "asks 1 0 0 0", 0);
    }

    private static void namesInTexts() {
        // More, excess, share: MORE, EXCESS, SHARE, from the least to the most.
        Scene s = new Scene("life 0 0 0", "life 9 0 0", "put 0 1 0", "put 0 2 0", "put 1 1 999", "put 1 2 100",
            "law odds share;sizes excess;seen more*11;");
        Scene each = new Scene("life 3 0 0", "put 0 1 40", "put 0 2 50", "law odds year;sizes luck*10;seen more;",
            "read odds excess;sizes share;seen much;");
        int[] first = {1, 20, 3};
        int[] second = {40, 50, 60};
        for (int part = 0; part <= 2; part++) {
            each.answers(7, "asks " + part + " 0 102 60", first[part]);
            each.then("force 2").answers(7, "asks " + part + " 0 102 60", second[part]);
        }
        s.answers(7, "asks 0 0 0 0", 0);
        s.answers(7, "asks 1 0 0 0", 0);
        s.answers(7, "asks 2 0 0 0", 0);
        s.answers(7, "asks 0 1 0 0", 100);
        s.answers(7, "asks 1 1 0 0", 999);
        s.answers(7, "asks 2 1 0 0", 99);
    }
}
