/** The edges of promises 13 to 18, a sentence of the document each: so many years, exactly. */
final class YearsEdges {
    private static final long NO = Calls.NO;
    /** In each YEAR surely in the half of all ways 100, of which 45 are TAKEN. */
    private static final Scene HALF = new Scene("life 0 0 0", "life 0 0 0", "law odds 50;sizes 100;seen 0;");
    /** All is TAKEN, and nearly surely. */
    private static final Scene ALL = new Scene("life 0 0 0", "put 0 1 0", "put 0 2 100");

    private YearsEdges() {
    }

    static void run() {
        means();
        keeps();
        likelies();
        neverAndAlways();
        manyYearsAndGreatOnes();
        yearsBehind99();
        timesInYears();
        fairs();
        excesses();
        ofLikeExcesses();
        whos();
    }

    private static void means() {
        // n (0 .. 6) YEARS; part 0 above, 1 below the line, in lowest terms. NO: none such.
        long[] above = {0, 45, 45, 135, 90, 225, 135};
        long[] below = {1, 2, 1, 2, 1, 2, 1};
        for (int n = 0; n <= 6; n++) {
            HALF.answers(13, "mean 0 " + n + " 0", above[n]);
            HALF.answers(13, "mean 0 " + n + " 1", below[n]);
        }
        HALF.furnished().ends(13, "mean # 1 0", 0, 45, 1, 45, NO);
        HALF.furnished().ends(13, "mean 0 # 0", 0, 0, 6, 135, NO);
        HALF.furnished().ends(13, "mean 0 1 #", 0, 45, 1, 2, NO);
        Scene.FULL.ends(13, "mean # 0 1", 0, 1, 4, 1, NO);
        Scene.NEW.unchanged(13, "mean 0 0 0", NO);
        Scene.TOWN.unchanged(13, "mean 0 1 0", 84);
        Scene.TOWN.unchanged(13, "mean 0 1 1", 5);
        Scene.TOWN.unchanged(13, "mean 3 1 0", NO);
    }

    private static void keeps() {
        long[] above = {0, 55, 55, 165, 110, 275, 165};
        long[] below = {1, 2, 1, 2, 1, 2, 1};
        for (int n = 0; n <= 6; n++) {
            HALF.answers(14, "keeps 0 " + n + " 0", above[n]);
            HALF.answers(14, "keeps 0 " + n + " 1", below[n]);
        }
        HALF.furnished().ends(14, "keeps # 1 0", 0, 55, 1, 55, NO);
        HALF.furnished().ends(14, "keeps 0 # 0", 0, 0, 6, 165, NO);
        HALF.furnished().ends(14, "keeps 0 1 #", 0, 55, 1, 2, NO);
        Scene.NEW.unchanged(14, "keeps 0 0 0", NO);
        Scene.TOWN.unchanged(14, "keeps 0 1 0", 106);
        Scene.TOWN.unchanged(14, "keeps 0 1 1", 5);
        // SIZES less TAKEN: all of it by SHARE 0 or up to EXCESS, nothing by SHARE 100 above EXCESS 0.
        HALF.then("put 0 2 0").answers(14, "keeps 0 2 0", 100);
        HALF.then("put 0 1 100").answers(14, "keeps 0 2 0", 100);
        HALF.then("put 0 1 0", "put 0 2 100").answers(14, "keeps 0 2 0", 0);
        HALF.then("put 0 1 0", "put 0 2 100").answers(14, "keeps 0 2 1", 1);
        HALF.then("put 0 1 99", "put 0 2 100").answers(14, "keeps 0 2 0", 99);
    }

    private static void likelies() {
        // Just so many (times, 0 .. 6) windfalls in n (0 .. 6) YEARS, likewise. NO: none such.
        int[][] ways = {{1}, {1, 1}, {1, 2, 1}, {1, 3, 3, 1}, {1, 4, 6, 4, 1}, {1, 5, 10, 10, 5, 1}, {1, 6, 15, 20, 15, 6, 1}};
        for (int n = 0; n <= 6; n++) {
            for (int times = 0; times <= 6; times++) {
                int above = times <= n ? ways[n][times] : 0;
                int below = above == 0 ? 1 : 1 << n;
                while (above > 0 && above % 2 == 0 && below > 1) {
                    above /= 2;
                    below /= 2;
                }
                HALF.answers(15, "likely 0 " + n + " " + times + " 0", above);
                HALF.answers(15, "likely 0 " + n + " " + times + " 1", below);
            }
        }
        HALF.furnished().ends(15, "likely # 1 1 1", 0, 2, 1, 2, NO);
        HALF.furnished().ends(15, "likely 0 # 0 1", 0, 1, 6, 64, NO);
        HALF.furnished().ends(15, "likely 0 6 # 1", 0, 64, 6, 64, NO);
        HALF.furnished().ends(15, "likely 0 1 1 #", 0, 1, 1, 2, NO);
        Scene.NEW.unchanged(15, "likely 0 0 0 0", NO);
        Scene.TOWN.unchanged(15, "likely 0 1 1 0", 2);
        Scene.TOWN.unchanged(15, "likely 0 1 1 1", 5);
    }

    private static void neverAndAlways() {
        Scene never = ALL.then("law odds 0;sizes 999;seen 0;");
        Scene always = ALL.then("law odds 100;sizes 999;seen 0;");
        for (int n = 0; n <= 6; n++) {
            never.answers(13, "mean 0 " + n + " 0", 0);
            never.answers(13, "mean 0 " + n + " 1", 1);
            always.answers(13, "mean 0 " + n + " 0", 999 * n);
            always.answers(13, "mean 0 " + n + " 1", 1);
            for (int times = 0; times <= 6; times++) {
                never.answers(15, "likely 0 " + n + " " + times + " 0", times == 0 ? 1 : 0);
                never.answers(15, "likely 0 " + n + " " + times + " 1", 1);
                always.answers(15, "likely 0 " + n + " " + times + " 0", times == n ? 1 : 0);
                always.answers(15, "likely 0 " + n + " " + times + " 1", 1);
            }
        }
        never.answers(16, "fair 0 6", 0);
        always.answers(16, "fair 0 6", 999);
    }

    private static void manyYearsAndGreatOnes() {
        // Exactly, above lines of 100 to the 6th.
        Scene nearly = ALL.then("law odds 99;sizes 999;seen 0;");
        nearly.answers(13, "mean 0 6 0", 296703);
        nearly.answers(13, "mean 0 6 1", 50);
        nearly.answers(15, "likely 0 6 6 0", 941480149401L);
        nearly.answers(15, "likely 0 6 6 1", 1000000000000L);
        nearly.answers(15, "likely 0 6 0 0", 1);
        nearly.answers(15, "likely 0 6 0 1", 1000000000000L);
        nearly.answers(15, "likely 0 6 5 0", 28529701497L);
        nearly.answers(15, "likely 0 6 5 1", 500000000000L);
        Scene less = ALL.then("law odds 97-luck*3-year;sizes 999-luck;seen 0;");
        less.answers(13, "mean 0 6 0", 2619855961776211L);
        less.answers(13, "mean 0 6 1", 500000000000L);
        less.answers(15, "likely 0 6 4 0", 33528519409L);
        less.answers(15, "likely 0 6 4 1", 250000000000L);
        less.then("put 0 2 0").answers(14, "keeps 0 6 0", 2619855961776211L);
        less.then("put 0 2 0").answers(14, "keeps 0 6 1", 500000000000L);
        // The greatest of all: an HEIR's first, and his YEAR (1, 3, 5) surely.
        Scene heir = new Scene("life 50 0 0", "put 0 1 0", "put 0 2 100", "law odds 99;sizes 999;seen 0;", "live 99999", "put 0 5 0");
        heir.answers(13, "mean 0 1 0", 2997);
        // Surely in YEARS 1, 3, 5, and 24 of 100 in 2, 4, 6.
        heir.answers(13, "mean 0 6 0", 2997 * 25 + 999 * 50 + 999 * 18);
        heir.answers(13, "mean 0 6 1", 25);
    }

    private static void yearsBehind99() {
        // YEARS from this one on: they are not bounded in thought.
        String all = "99 times live 0";
        Scene s = ALL.then("law odds 100;sizes (99<year)*(year-99)*100+luck;seen 0;", all, "put 0 5 0");
        s.answers(13, "mean 0 1 0", 0);
        s.answers(13, "mean 0 2 0", 101);
        s.answers(13, "mean 0 6 0", 100 + 200 + 300 + 400 + 500 + 15);
        Scene year98 = ALL.then("law odds 100*(year=100);sizes 7;seen 0;", "98 times live 0");
        year98.answers(13, "mean 0 2 0", 0);
        year98.answers(13, "mean 0 3 0", 7);
        year98.answers(13, "mean 0 4 0", 7);
        // An HEIR's YEARS, too: 99, 101, 103 by MORE 0.
        Scene heir = new Scene("life 50 0 0", "law odds 40;sizes 0;seen 0;", all);
        heir.answers(15, "likely 0 2 1 0", 9);
        heir.answers(15, "likely 0 2 1 1", 10);
        heir.answers(15, "likely 0 3 2 0", 9);
        heir.answers(15, "likely 0 3 2 1", 10);
        // By all of this, and LUCK 99 at most.
        Scene e = ALL.then("law odds 50;sizes year*5+luck;seen 0;", all, "put 0 5 97");
        e.answers(13, "mean 0 6 0", 116265);
        e.answers(13, "mean 0 6 1", 64);
        e.answers(16, "fair 0 6", 303);
    }

    private static void timesInYears() {
        // TIMES from LUCK on, 1 more by each windfall; to texts 99 at most.
        Scene s = ALL.then("law odds 100;sizes luck*5;seen 0;");
        s.answers(13, "mean 0 6 0", 5 * 15);
        s.then("put 0 5 7").answers(13, "mean 0 6 0", 5 * (7 * 6 + 15));
        s.then("put 0 5 97").answers(13, "mean 0 6 0", 5 * (97 + 98 + 4 * 99));
        s.then("put 0 5 99").answers(13, "mean 0 6 0", 5 * 6 * 99);
        // A WARD's are half if TIMES is above 2, an HEIR's first alone is three times as great.
        Scene ward = new Scene("life 30 0 0", "put 0 1 0", "put 0 2 100", "law odds 100;sizes 40;seen 0;");
        ward.answers(13, "mean 0 3 0", 60);
        ward.answers(13, "mean 0 4 0", 70);
        ward.then("put 0 5 2").answers(13, "mean 0 2 0", 30);
        Scene heir = new Scene("life 50 0 0", "put 0 1 0", "put 0 2 100", "law odds 40;sizes 30;seen 0;", "live 99", "put 0 5 0");
        heir.answers(13, "mean 0 1 0", 90);
        heir.answers(13, "mean 0 3 0", 90 + 3 + 30);
        heir.then("put 0 5 1").answers(13, "mean 0 1 0", 30);
        // TAKEN of each by itself, not of all: three times just the EXCESS.
        new Scene("life 0 0 0", "law odds 100;sizes 10;seen 0;").answers(13, "mean 0 3 0", 0);
        new Scene("life 0 0 0", "law odds 100;sizes 11;seen 0;").answers(13, "mean 0 6 0", 0);
        new Scene("life 0 0 0", "law odds 100;sizes 12;seen 0;").answers(13, "mean 0 6 0", 6);
    }

    private static void fairs() {
        // The least whole number that is no less than TAKEN IN THE MEAN by n (1 .. 6). NO: none such.
        HALF.furnished().ends(16, "fair 0 #", 1, 23, 6, 23, NO);
        HALF.furnished().ends(16, "fair # 2", 0, 23, 1, 23, NO);
        Scene.NEW.unchanged(16, "fair 0 1", NO);
        Scene.TOWN.unchanged(16, "fair 0 1", 17);
        int[][] so = {{1, 1, 1}, {99, 1, 1}, {100, 1, 1}, {100, 2, 2}, {50, 2, 1}, {51, 2, 2}, {50, 3, 2}, {1, 100, 1}, {1, 101, 2}, {1, 99, 1},
            {0, 999, 0}, {99, 999, 990}, {100, 999, 999}, {50, 0, 0}};
        for (int[] s : so) {
            Scene x = ALL.then("law odds " + s[0] + ";sizes " + s[1] + ";seen 0;");
            for (int n = 1; n <= 6; n++) {
                x.answers(16, "fair 0 " + n, s[2]);
            }
        }
        // By n: one windfall of 60 in so many YEARS.
        int[] by = {60, 30, 20, 15, 12, 10};
        for (int n = 1; n <= 6; n++) {
            ALL.then("law odds 100*(luck=0);sizes 60;seen 0;").answers(16, "fair 0 " + n, by[n - 1]);
            ALL.then("law odds 100*(luck=0);sizes 61;seen 0;").answers(16, "fair 0 " + n, by[n - 1] + 1);
        }
    }

    private static void excesses() {
        // EXCESSES 0, 10, .. 990. -5: no such LIFE; -7: n, goalOf.
        HALF.furnished().ends(17, "excess 0 # 0", 1, 0, 6, 0, -7);
        HALF.furnished().ends(17, "excess 0 # 1", 1, 100, 6, 100, -7);
        HALF.furnished().ends(17, "excess 0 1 #", 0, 0, 1, 100, -7);
        HALF.furnished().ends(17, "excess # 1 1", 0, 100, 1, 100, -5);
        Scene.NEW.unchanged(17, "excess 0 1 0", -5);
        Scene.TOWN.unchanged(17, "excess 0 1 0", 0);
        Scene.TOWN.unchanged(17, "excess 0 1 1", 100);
        Scene.TOWN.unchanged(17, "excess 3 0 2", -5);
        Scene.TOWN.unchanged(17, "excess -1 7 0", -5);
        // Only by these, and by each of them; were it one's, texts say otherwise, too.
        int[][] so = {{0, 0}, {10, 10}, {20, 20}, {500, 500}, {980, 980}, {990, 990}, {1, 0}, {9, 0}, {985, 0}, {989, 0}, {991, 0}, {995, 0}, {999, 0}};
        for (int[] s : so) {
            Scene x = ALL.then("law odds 50*(excess=" + s[0] + ");sizes 999;seen 0;", "put 0 1 5");
            x.answers(17, "excess 0 1 0", s[1]);
        }
        for (int[] s : so) {
            Scene x = new Scene("life 0 0 0", "law odds 50*(excess=" + s[0] + ");sizes 999;seen 0;", "put 0 1 5");
            x.answers(17, "excess 0 2 1", s[1]);
        }
    }

    private static void ofLikeExcesses() {
        // Of like ones the least; nothing is TAKEN, nothing is had: 0.
        for (int goal = 0; goal <= 1; goal++) {
            ALL.then("law odds 0;sizes 999;seen 0;").answers(17, "excess 0 6 " + goal, 0);
            ALL.then("law odds 50;sizes 0;seen 0;").answers(17, "excess 0 6 " + goal, 0);
            new Scene("life 0 0 0", "put 0 2 0", "law odds 50;sizes 50;seen 0;").answers(17, "excess 0 6 " + goal, 0);
        }
        int[][] kept = {{999, 990}, {991, 990}, {990, 990}, {989, 990}, {981, 990}, {980, 980}, {100, 100}, {99, 100}, {11, 20}, {10, 10}, {9, 10}, {1, 10}};
        for (int[] k : kept) {
            ALL.then("law odds 50;sizes " + k[0] + ";seen 0;").answers(17, "excess 0 3 1", k[1]);
        }
        // Asked once of much, then of little: the first is forgotten.
        ALL.then("law odds 100;sizes 999;seen 0;", "excess 0 6 0", "law odds 1;sizes 15*(excess=10);seen 0;").answers(17, "excess 0 1 0", 10);
    }

    private static void whos() {
        // n (1 .. 6); of like ones the first; -1: there are none. BAD.
        Scene s = new Scene("life 29 0 0", "life 0 0 0", "life 0 0 0", "life 11 0 0", "law odds 50;sizes 100;seen 0;");
        s.furnished().ends(18, "who # 0", 1, 1, 6, 1, -2);
        s.furnished().ends(18, "who # 1", 1, 3, 6, 3, -2);
        s.furnished().ends(18, "who 1 #", 0, 1, 1, 3, -2);
        Scene.TOWN.unchanged(18, "who 1 0", 0);
        Scene.TOWN.unchanged(18, "who 1 1", 1);
        for (int n = 1; n <= 6; n++) {
            Scene.NEW.unchanged(18, "who " + n + " 0", -1);
            Scene.NEW.unchanged(18, "who " + n + " 1", -1);
        }
        Scene.NEW.beyond(18, "who # 0", 1, 6, -2);
        Scene.NEW.beyond(18, "who 1 #", 0, 1, -2);
        // A windfall in the first YEAR counts as much as one in the second.
        for (int goal = 0; goal <= 1; goal++) {
            new Scene("life 0 0 0", "life 1 0 0", "law odds 50*(year=more);sizes 100;seen 0;").answers(18, "who 2 " + goal, 0);
            new Scene("life 1 0 0", "life 0 0 0", "law odds 50*(year=more);sizes 100;seen 0;").answers(18, "who 2 " + goal, 0);
            new Scene("life 1 0 0", "life 0 0 0", "law odds 50*(year=more);sizes 100;seen 0;").answers(18, "who 1 " + goal, 1);
        }
        for (int goal = 0; goal <= 1; goal++) {
            new Scene("5 times life 0 0 0", "law odds 0;sizes 0;seen 0;").answers(18, "who 6 " + goal, 0);
            new Scene("5 times life 0 0 0").answers(18, "who 6 " + goal, 0);
            new Scene("4 times life 0 0 0", "life 10 0 0", "put 4 2 100", "law odds 20;sizes 100;seen 0;").answers(18, "who 6 " + goal, 0);
            new Scene("4 times life 0 0 0", "life 1 0 0", "law odds 20+more;sizes 100;seen 0;").answers(18, "who 6 " + goal, 4);
        }
    }
}
