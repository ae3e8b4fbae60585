/** The edges of promises 8 to 12, a sentence of the document each: lives, their kinds, a windfall. */
final class LivesEdges {
    /** Two LIVES, of WEALTH 7 and 8, in HOUSES 3 and 4. */
    private static final Scene PAIR = new Scene("life 0 7 3", "life 0 8 4");

    private LivesEdges() {
    }

    static void run() {
        comes();
        fiveLives();
        asOneComes();
        putsFromEndToEnd();
        insuresAnotherOne();
        tells();
        asksAboutAWindfall();
        gamblers();
        carefulOnes();
        wards();
        clumsyOnes();
        heirs();
        heirsYears();
        timesInTexts();
        muchInTexts();
        claims();
        takenAboveTheExcess();
    }

    private static void comes() {
        // A LIFE: 10 times KIND, and MORE (0 .. 9); WEALTH 0 .. 99999; HOUSE 0 .. 11. BAD.
        Scene.TOWN.ends(8, "life # 5 5", 0, 3, 59, 3, -2);
        Scene.TOWN.ends(8, "life 0 # 5", 0, 3, 99999, 3, -2);
        Scene.TOWN.ends(8, "life 0 5 #", 0, 3, 11, 3, -2);
        Scene.NEW.ends(8, "life # 0 0", 0, 0, 59, 0, -2);
        int[] kinds = {0, 9, 10, 19, 20, 29, 30, 39, 40, 49, 50, 59};
        for (int kindMore : kinds) {
            Scene.NEW.becomes(8, "life " + kindMore + " 1 2", 0, "told 0 6", kindMore / 10);
            Scene.NEW.becomes(8, "life " + kindMore + " 1 2", 0, "told 0 7", kindMore % 10);
        }
        Scene.NEW.becomes(8, "life 0 99999 0", 0, "told 0 0", 99999);
        Scene.NEW.becomes(8, "life 0 0 11", 0, "told 0 3", 11);
    }

    private static void fiveLives() {
        // LIVES are numbered from 0 on, 5 at most. BAD; FULL: BAD is told ahead.
        for (int l = 0; l < 5; l++) {
            Scene s = l == 0 ? Scene.NEW : new Scene(l + " times life 0 0 0");
            s.becomes(8, "life 12 3 4", l, "count 0", l + 1);
            s.becomes(8, "life 12 3 4", l, "told " + l + " 0", 3);
        }
        Scene.FULL.unchanged(8, "life 0 0 0", -4);
        Scene.FULL.unchanged(8, "life 59 99999 11", -4);
        Scene.FULL.beyond(8, "life # 0 0", 0, 59, -2);
        Scene.FULL.beyond(8, "life 0 # 0", 0, 99999, -2);
        Scene.FULL.beyond(8, "life 0 0 #", 0, 11, -2);
    }

    private static void asOneComes() {
        // EXCESS 10 as one comes, SHARE 50, INSURES none, LUCK 0; also in the place of one that came to nothing.
        Scene again = new Scene("life 0 0 0", "image", "life 47 5 5", "put 1 1 7", "put 1 2 8", "put 1 4 0", "put 1 5 9", "back");
        int[] as = {3, 10, 50, 4, -1, 0, 1, 2};
        for (int what = 0; what < as.length; what++) {
            Scene.NEW.becomes(8, "life 12 3 4", 0, "told 0 " + what, as[what]);
            again.becomes(8, "life 12 3 4", 1, "told 1 " + what, as[what]);
        }
    }

    private static void putsFromEndToEnd() {
        // WEALTH 0 .. 99999, EXCESS 0 .. 999, SHARE 0 .. 100, HOUSE 0 .. 11, LUCK 0 .. 99. -5: no such LIFE; -7: what, v.
        int[][] so = {{0, 99999, 8}, {1, 999, 10}, {2, 100, 50}, {3, 11, 4}, {5, 99, 0}};
        for (int[] s : so) {
            String call = "put 1 " + s[0] + " ";
            PAIR.furnished().ends(9, call + "#", 0, s[2], s[1], s[2], -7);
            PAIR.becomes(9, call + 0, s[2], "told 1 " + s[0], 0);
            PAIR.becomes(9, call + s[1], s[2], "told 1 " + s[0], s[1]);
            PAIR.then(call + s[1]).ends(9, call + "#", 0, s[1], s[1], s[1], -7);
            PAIR.then(call + s[1]).becomes(9, call + (s[1] + 1), -7, "told 1 " + s[0], s[1]);
            PAIR.furnished().unchanged(9, call + s[2], s[2]);
            // Nothing else becomes so.
            for (int what = 0; what <= 7; what++) {
                if (what != s[0]) {
                    int[] was = {8, 10, 50, 4, -1, 0, 0, 0};
                    PAIR.becomes(9, call + 1, s[2], "told 1 " + what, was[what]);
                }
            }
            PAIR.becomes(9, call + 1, s[2], "told 0 0", 7);
        }
        PAIR.furnished().ends(9, "put 1 # 0", 0, 8, 5, 0, -7);
        PAIR.furnished().ends(9, "put # 0 5", 0, 7, 1, 8, -5);
        Scene.FULL.ends(9, "put # 0 5", 0, 10, 4, 50, -5);
        Scene.NEW.unchanged(9, "put 0 0 0", -5);
        PAIR.furnished().unchanged(9, "put 2 6 0", -5);
        PAIR.furnished().unchanged(9, "put -1 0 -1", -5);
        PAIR.furnished().unchanged(9, "put 0 6 0", -7);
        PAIR.furnished().unchanged(9, "put 0 7 0", -7);
    }

    private static void insuresAnotherOne() {
        // Whom one INSURES (4; -1: none; not oneself).
        PAIR.furnished().ends(9, "put 0 4 #", -1, -1, 1, -1, -7);
        PAIR.furnished().beyond(9, "put 1 4 #", -1, 1, -7);
        PAIR.furnished().unchanged(9, "put 0 4 0", -7);
        PAIR.furnished().unchanged(9, "put 1 4 1", -7);
        PAIR.becomes(9, "put 1 4 0", -1, "told 1 4", 0);
        PAIR.becomes(9, "put 1 4 0", -1, "put 1 4 -1", 0);
        PAIR.then("put 0 4 1").becomes(9, "put 0 4 0", -7, "told 0 4", 1);
        PAIR.then("put 0 4 1").becomes(9, "put 0 4 -1", 1, "told 0 4", -1);
        Scene.FULL.ends(9, "put 0 4 #", -1, -1, 4, -1, -7);
        Scene.FULL.ends(9, "put 4 4 #", -1, -1, 3, -1, -7);
        for (int l = 0; l < 5; l++) {
            Scene.FULL.unchanged(9, "put " + l + " 4 " + l, -7);
        }
        new Scene("life 0 0 0").ends(9, "put 0 4 #", -1, -1, -1, -1, -7);
        // One that came and is none can't be insured.
        new Scene("life 0 0 0", "image", "life 0 0 0", "back").unchanged(9, "put 0 4 1", -7);
    }

    private static void tells() {
        // That; 6 KIND, 7 MORE. -5, -7 (what) likewise.
        Scene.TOWN.ends(10, "told 1 #", 0, 60, 7, 7, -7);
        Scene.TOWN.ends(10, "told # 6", 0, 0, 2, 2, -5);
        Scene.FULL.ends(10, "told # 6", 0, 0, 4, 4, -5);
        Scene.NEW.unchanged(10, "told 0 0", -5);
        Scene.TOWN.unchanged(10, "told 3 8", -5);
        Scene.TOWN.unchanged(10, "told -1 -1", -5);
        int[] is = {60, 20, 50, 4, 2, 0, 1, 7};
        for (int what = 0; what < is.length; what++) {
            Scene.TOWN.unchanged(10, "told 1 " + what, is[what]);
        }
    }

    private static void asksAboutAWindfall() {
        // -5: no such LIFE; -7: what.
        Scene.TOWN.ends(11, "windfall 1 #", 0, 54, 3, 25, -7);
        Scene.TOWN.ends(11, "windfall # 1", 0, 95, 2, 90, -5);
        Scene.FULL.ends(11, "windfall # 3", 0, 30, 4, 38, -5);
        Scene.NEW.unchanged(11, "windfall 0 0", -5);
        Scene.TOWN.unchanged(11, "windfall 3 4", -5);
        Scene.TOWN.unchanged(11, "windfall -1 -1", -5);
        int[] is = {54, 45, 12, 25};
        for (int what = 0; what < is.length; what++) {
            Scene.TOWN.unchanged(11, "windfall 1 " + what, is[what]);
        }
    }

    /** By texts that say just so, one of a KIND with MORE and LUCK has such a windfall. */
    private static void windfall(int kindMore, int luck, String texts, int odds, int size, int seen) {
        String[] parts = texts.split(" ");
        Scene s = new Scene("life " + kindMore + " 0 0", "put 0 5 " + luck,
            "law odds " + parts[0] + ";sizes " + parts[1] + ";seen " + parts[2] + ";");
        s.answers(11, "windfall 0 0", odds);
        s.answers(11, "windfall 0 1", size);
        s.answers(11, "windfall 0 2", size > 10 ? (size - 10) / 2 : 0);
        s.answers(11, "windfall 0 3", seen);
    }

    private static void gamblers() {
        // Twice MORE likelier; half (cut) as great; ODDS 0 .. 100, else the bound, in the end.
        windfall(10, 0, "0 0 0", 0, 0, 0);
        windfall(19, 0, "0 1 100", 18, 0, 100);
        windfall(10, 0, "100 2 50", 100, 1, 50);
        windfall(11, 0, "98 3 50", 100, 1, 50);
        windfall(11, 0, "99 998 50", 100, 499, 50);
        windfall(11, 0, "97 999 50", 99, 499, 50);
        windfall(19, 0, "82 5 7", 100, 2, 7);
        windfall(19, 0, "83 5 7", 100, 2, 7);
        windfall(19, 0, "81 5 7", 99, 2, 7);
        windfall(19, 0, "100 9 7", 100, 4, 7);
        // Nothing of a WARD's.
        windfall(15, 3, "50 80 60", 60, 40, 60);
    }

    private static void carefulOnes() {
        // Half (cut) as likely; SEEN 3 times MORE less, 0 at least.
        windfall(20, 0, "0 0 0", 0, 0, 0);
        windfall(20, 0, "1 1 100", 0, 1, 100);
        windfall(20, 0, "99 999 99", 49, 999, 99);
        windfall(20, 0, "100 50 1", 50, 50, 1);
        windfall(29, 0, "3 50 28", 1, 50, 1);
        windfall(29, 0, "3 50 27", 1, 50, 0);
        windfall(29, 0, "3 50 26", 1, 50, 0);
        windfall(29, 0, "3 50 0", 1, 50, 0);
        windfall(29, 0, "3 50 100", 1, 50, 73);
        windfall(21, 0, "3 50 2", 1, 50, 0);
        // Nothing of a CLUMSY one's.
        windfall(25, 3, "50 80 60", 25, 80, 45);
    }

    private static void wards() {
        // Half (cut) of a GAMBLER's as great, if TIMES is above 2; SEEN 100 less MORE, whatever the text says.
        for (int luck = 0; luck <= 2; luck++) {
            windfall(30, luck, "10 999 0", 10, 499, 100);
        }
        windfall(30, 3, "10 999 0", 10, 249, 100);
        windfall(30, 99, "10 999 0", 10, 249, 100);
        windfall(31, 3, "99 3 0", 100, 0, 99);
        windfall(31, 3, "98 4 100", 100, 1, 99);
        windfall(39, 3, "97 7 100", 100, 1, 91);
        windfall(39, 2, "0 7 0", 18, 3, 91);
        windfall(39, 3, "81 0 50", 99, 0, 91);
    }

    private static void clumsyOnes() {
        // 10 times MORE less great, 0 at least; SEEN 20 more than a CAREFUL one's, 0 .. 100 in the end.
        windfall(40, 0, "99 999 80", 49, 999, 100);
        windfall(40, 0, "1 0 81", 0, 0, 100);
        windfall(40, 0, "1 1 79", 0, 1, 99);
        windfall(40, 0, "1 1 100", 0, 1, 100);
        windfall(40, 0, "1 1 0", 0, 1, 20);
        windfall(49, 0, "100 999 100", 50, 909, 93);
        windfall(49, 0, "100 91 0", 50, 1, 0);
        windfall(49, 0, "100 90 7", 50, 0, 0);
        windfall(49, 0, "100 89 8", 50, 0, 1);
        windfall(49, 0, "100 0 26", 50, 0, 19);
        windfall(49, 0, "100 50 27", 50, 0, 20);
        windfall(41, 0, "3 10 2", 1, 0, 19);
        windfall(41, 0, "3 11 83", 1, 1, 100);
        windfall(41, 0, "3 9 84", 1, 0, 100);
        windfall(41, 5, "3 30 82", 1, 20, 99);
    }

    private static void heirs() {
        // In YEAR 0: a quarter (cut); three times as great, if TIMES is 0.
        windfall(50, 0, "0 0 0", 0, 0, 0);
        windfall(50, 0, "3 1 100", 0, 3, 100);
        windfall(50, 0, "4 999 99", 1, 2997, 99);
        windfall(59, 0, "99 333 50", 24, 999, 50);
        windfall(59, 0, "100 334 50", 25, 1002, 50);
        windfall(50, 1, "7 999 50", 1, 999, 50);
        windfall(50, 99, "8 5 50", 2, 5, 50);
        // In YEAR 1 with MORE 0: twice as likely, and 20 more, 100 at most.
        int[][] twice = {{0, 20}, {1, 22}, {39, 98}, {40, 100}, {41, 100}, {50, 100}, {100, 100}};
        for (int[] t : twice) {
            new Scene("life 50 0 0", "law odds " + t[0] + ";sizes 1;seen 1;", "live 0").answers(11, "windfall 0 0", t[1]);
        }
    }

    private static void heirsYears() {
        // If YEAR modulo (MORE and 2) is MORE and 1.
        for (int more = 0; more <= 9; more++) {
            for (int year : new int[] {0, 1, more, more + 1, more + 2, more + 3, 2 * more + 2, 2 * more + 3, 2 * more + 4, 98, 99}) {
                Scene s = new Scene("life " + (50 + more) + " 0 0", "law odds 30;sizes 1;seen 1;", year + " times live 0");
                s.answers(11, "windfall 0 0", year % (more + 2) == more + 1 ? 80 : 7);
            }
        }
        new Scene("life 58 0 0", "law odds 30;sizes 1;seen 1;", "99 times live 0").answers(11, "windfall 0 0", 80);
        new Scene("life 59 0 0", "law odds 30;sizes 1;seen 1;", "98 times live 0").answers(11, "windfall 0 0", 80);
        new Scene("life 59 0 0", "law odds 30;sizes 1;seen 1;", "99 times live 0").answers(11, "windfall 0 0", 7);
    }

    private static void timesInTexts() {
        // Luck: TIMES (99 at most); year: the YEAR that is meant.
        for (int luck : new int[] {0, 1, 98, 99}) {
            Scene s = new Scene("life 0 0 0", "put 0 5 " + luck, "law odds luck;sizes luck*10;seen luck;");
            s.answers(11, "windfall 0 0", luck);
            s.answers(11, "windfall 0 1", 10 * luck);
            s.answers(11, "windfall 0 3", luck);
        }
        for (int year : new int[] {0, 1, 98, 99}) {
            Scene s = new Scene("life 0 0 0", "law odds year;sizes year*10;seen year;", "put 0 2 0", year + " times live 99");
            s.answers(11, "windfall 0 0", year);
            s.answers(11, "windfall 0 1", 10 * year);
            s.answers(11, "windfall 0 3", year);
        }
    }

    private static void muchInTexts() {
        // Much: of seen how much is hidden (999 at most), of others 0.
        String law = "law odds much;sizes 333+much;seen (much=999)*50+(999<much)*90;";
        new Scene("life 50 0 0", law).answers(11, "windfall 0 3", 50);
        new Scene("life 50 0 0", law.replace("333", "332")).answers(11, "windfall 0 3", 0);
        new Scene("life 50 0 0", law.replace("333", "334")).answers(11, "windfall 0 3", 50);
        new Scene("life 50 0 0", law).answers(11, "windfall 0 1", 999);
        new Scene("life 50 0 0", law).answers(11, "windfall 0 0", 0);
        Scene hidden = new Scene("life 0 0 0", law, "put 0 1 0", "put 0 2 100");
        hidden.answers(21, "unseen 0 998 1 1", 1);
        hidden.answers(21, "unseen 0 999 1 1", 2);
        hidden.answers(21, "unseen 0 1000 1 1", 2);
        hidden.answers(21, "unseen 0 99999 1 1", 2);
    }

    private static void claims() {
        // TAKEN of much (0 .. 99999). -5: no such LIFE; -7: much.
        Scene.TOWN.ends(12, "claim 1 #", 0, 0, 99999, 49989, -7);
        Scene.TOWN.ends(12, "claim # 30", 0, 10, 2, 10, -5);
        Scene.FULL.ends(12, "claim # 30", 0, 10, 4, 10, -5);
        Scene.NEW.unchanged(12, "claim 0 0", -5);
        Scene.TOWN.unchanged(12, "claim 3 -1", -5);
        Scene.TOWN.unchanged(12, "claim -1 100000", -5);
        Scene.TOWN.unchanged(12, "claim 1 500", 240);
    }

    private static void takenAboveTheExcess() {
        // If it is above EXCESS, what is above times SHARE by 100 (cut); else 0.
        Scene half = new Scene("life 0 0 0");
        int[][] so = {{9, 0}, {10, 0}, {11, 0}, {12, 1}, {13, 1}, {14, 2}};
        for (int[] s : so) {
            half.answers(12, "claim 0 " + s[0], s[1]);
        }
        Scene all = half.then("put 0 1 0", "put 0 2 100");
        all.answers(12, "claim 0 0", 0);
        all.answers(12, "claim 0 1", 1);
        all.answers(12, "claim 0 99999", 99999);
        half.then("put 0 1 0", "put 0 2 0").answers(12, "claim 0 99999", 0);
        half.then("put 0 1 999", "put 0 2 100").answers(12, "claim 0 999", 0);
        half.then("put 0 1 999", "put 0 2 100").answers(12, "claim 0 1000", 1);
        half.then("put 0 1 0", "put 0 2 1").answers(12, "claim 0 99", 0);
        half.then("put 0 1 0", "put 0 2 1").answers(12, "claim 0 100", 1);
        half.then("put 0 1 0", "put 0 2 99").answers(12, "claim 0 99999", 98999);
    }
}
