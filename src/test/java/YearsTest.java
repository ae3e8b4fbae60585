/** Promises 13 to 18: so many years, exactly. */
final class YearsTest {
    private static final String HALF = "odds 50;sizes 100;seen 0;";
    /** Surely one in the first YEAR, in half of the ways another one later. */
    private static final String LESS = "odds 100-luck*50;sizes 100+luck*10;seen 0;";

    private YearsTest() {
    }

    static void run() {
        means();
        keeps();
        likelies();
        byYearsAndTimes();
        fairs();
        excesses();
        whos();
    }

    private static void means() {
        InsuredAgainstLuck x = Calls.under(HALF, 0, 5);
        Due.is(13, "mean(0, 0, 0)", x.mean(0, 0, 0), 0);
        Due.is(13, "mean(0, 0, 1)", x.mean(0, 0, 1), 1);
        Due.is(13, "mean(0, 1, 0)", x.mean(0, 1, 0), 45);
        Due.is(13, "mean(0, 1, 1)", x.mean(0, 1, 1), 2);
        Due.is(13, "mean(0, 6, 0)", x.mean(0, 6, 0), 135);
        Due.is(13, "mean(0, 6, 1)", x.mean(0, 6, 1), 1);
        InsuredAgainstLuck y = Calls.under(LESS, 0);
        Due.is(13, "mean, less likely later, above", y.mean(0, 2, 0), 70);
        Due.is(13, "mean, less likely later, below", y.mean(0, 2, 1), 1);
        // 45, then 50 in a half of the ways, and in the other half again 50 in a half.
        Due.is(13, "mean of 3, above", y.mean(0, 3, 0), 165);
        Due.is(13, "mean of 3, below", y.mean(0, 3, 1), 2);
        wrongMeans(x);
    }

    private static void wrongMeans(InsuredAgainstLuck x) {
        int[][] wrong = {{2, 1, 0}, {-1, 1, 0}, {0, -1, 0}, {0, 7, 0}, {0, 1, -1}, {0, 1, 2}};
        for (int[] w : wrong) {
            Due.is(13, "mean(" + w[0] + ", " + w[1] + ", " + w[2] + ")", x.mean(w[0], w[1], w[2]), Calls.NO);
            Due.is(14, "keeps(" + w[0] + ", " + w[1] + ", " + w[2] + ")", x.keeps(w[0], w[1], w[2]), Calls.NO);
        }
    }

    private static void keeps() {
        InsuredAgainstLuck x = Calls.under(HALF, 0);
        Due.is(14, "keeps(0, 0, 0)", x.keeps(0, 0, 0), 0);
        Due.is(14, "keeps(0, 0, 1)", x.keeps(0, 0, 1), 1);
        Due.is(14, "keeps(0, 1, 0)", x.keeps(0, 1, 0), 55);
        Due.is(14, "keeps(0, 1, 1)", x.keeps(0, 1, 1), 2);
        Due.is(14, "keeps(0, 6, 0)", x.keeps(0, 6, 0), 165);
        x.put(0, 2, 100);
        Due.is(14, "keeps, all above the excess taken", x.keeps(0, 2, 0), 10);
        InsuredAgainstLuck y = Calls.under(LESS, 0);
        // 55, and 60 in three quarters of the ways.
        Due.is(14, "keeps of 3", y.keeps(0, 3, 0), 100);
        Due.is(14, "keeps of 3, below", y.keeps(0, 3, 1), 1);
    }

    private static void likelies() {
        InsuredAgainstLuck x = Calls.under(HALF, 0);
        int[] ways = {1, 6, 15, 20, 15, 6, 1};
        int[] lowest = {1, 3, 15, 5, 15, 3, 1};
        int[] below = {64, 32, 64, 16, 64, 32, 64};
        for (int times = 0; times < ways.length; times++) {
            Due.is(15, "likely(0, 6, " + times + ", 0)", x.likely(0, 6, times, 0), lowest[times]);
            Due.is(15, "likely(0, 6, " + times + ", 1)", x.likely(0, 6, times, 1), below[times]);
        }
        Due.is(15, "likely(0, 0, 0, 0)", x.likely(0, 0, 0, 0), 1);
        Due.is(15, "likely(0, 0, 0, 1)", x.likely(0, 0, 0, 1), 1);
        Due.is(15, "likely(0, 2, 3, 0)", x.likely(0, 2, 3, 0), 0);
        Due.is(15, "likely(0, 2, 3, 1)", x.likely(0, 2, 3, 1), 1);
        InsuredAgainstLuck y = Calls.under(LESS, 0);
        Due.is(15, "none at all", y.likely(0, 3, 0, 0), 0);
        Due.is(15, "one of 3", y.likely(0, 3, 1, 1), 4);
        Due.is(15, "two of 3", y.likely(0, 3, 2, 0), 3);
        Due.is(15, "three of 3, below 0", y.likely(0, 3, 3, 0), 0);
        int[][] wrong = {{1, 1, 1, 0}, {-1, 1, 1, 0}, {0, -1, 0, 0}, {0, 7, 0, 0}, {0, 1, -1, 0}, {0, 1, 7, 0},
            {0, 1, 1, -1}, {0, 1, 1, 2}};
        for (int[] w : wrong) {
            Due.is(15, "a wrong likely", x.likely(w[0], w[1], w[2], w[3]), Calls.NO);
        }
    }

    private static void byYearsAndTimes() {
        // A windfall surely, but in YEAR 1, and with LUCK 7; YEARS go on behind 99, LUCK in texts does not.
        InsuredAgainstLuck x = Calls.under("odds 100*(not (year = 1 or luck = 7));sizes 100+year*10;seen 0;", 0);
        Due.is(13, "mean by years", x.mean(0, 3, 0), 45 + 55);
        x.live(0);
        Due.is(13, "mean from year 1 on", x.mean(0, 3, 0), 55 + 60);
        x.put(0, 5, 6);
        Due.is(13, "mean from luck 6 on", x.mean(0, 3, 0), 55);
        Due.is(15, "likely from luck 6 on", x.likely(0, 3, 1, 0), 1);
        InsuredAgainstLuck y = Calls.under("odds 100*(98<year);sizes luck+(99<year)*100;seen 0;", 0);
        y.put(0, 1, 0);
        y.put(0, 2, 100);
        for (int i = 0; i < 99; i++) {
            y.live(i);
        }
        Due.is(13, "no year 100 truly", y.live(0), -4);
        y.put(0, 5, 98);
        Due.is(13, "behind year 99, with luck 99 at most", y.mean(0, 4, 0), 98 + 199 + 199 + 199);
        // TIMES go on where the kinds ask: an HEIR is three times as lucky once alone, a WARD changes at 3.
        InsuredAgainstLuck z = Calls.under("odds 100;sizes 100;seen 0;", 30, 50);
        z.put(0, 1, 0);
        z.put(0, 2, 100);
        Due.is(13, "a ward's years", z.mean(0, 6, 0), 3 * 50 + 3 * 25);
        Due.is(14, "an heir's year", z.keeps(1, 1, 0), 155);
        Due.is(14, "an heir's year, below", z.keeps(1, 1, 1), 4);
    }

    private static void fairs() {
        InsuredAgainstLuck x = Calls.under(HALF, 0);
        Due.is(16, "fair(0, 1), 22 and a half", x.fair(0, 1), 23);
        Due.is(16, "fair(0, 6)", x.fair(0, 6), 23);
        InsuredAgainstLuck y = Calls.under(LESS, 0);
        Due.is(16, "fair, whole", y.fair(0, 1), 45);
        Due.is(16, "fair of 2, whole", y.fair(0, 2), 35);
        Due.is(16, "fair of 3, 27 and a half", y.fair(0, 3), 28);
        Due.is(16, "nothing is taken", Calls.under("odds 0;sizes 9;seen 0;", 0).fair(0, 6), 0);
        Due.is(16, "a little is taken", Calls.under("odds 1;sizes 12;seen 0;", 0).fair(0, 6), 1);
        Due.is(16, "101 hundredths", Calls.under("odds 1;sizes 212;seen 0;", 0).fair(0, 1), 2);
        int[][] wrong = {{1, 1}, {-1, 1}, {0, 0}, {0, 7}};
        for (int[] w : wrong) {
            Due.is(16, "fair(" + w[0] + ", " + w[1] + ")", x.fair(w[0], w[1]), Calls.NO);
        }
    }

    private static void excesses() {
        InsuredAgainstLuck x = Calls.under(HALF, 0);
        Due.is(17, "excess(0, 1, 0)", x.excess(0, 1, 0), 0);
        Due.is(17, "excess(0, 1, 1)", x.excess(0, 1, 1), 100);
        Due.is(17, "excess(0, 6, 1)", x.excess(0, 6, 1), 100);
        Due.is(17, "nothing changed", x.told(0, 1), 10);
        Due.is(17, "the last one of all", Calls.under("odds 50;sizes excess;seen 0;", 0).excess(0, 3, 1), 990);
        Due.is(17, "of like ones the least", Calls.under("odds 50;sizes excess;seen 0;", 0).excess(0, 3, 0), 0);
        InsuredAgainstLuck y = Calls.under("odds 99*(199<excess);sizes 999;seen 0;", 0);
        Due.is(17, "by the text's excess, taken", y.excess(0, 1, 0), 200);
        Due.is(17, "by the text's excess, kept", y.excess(0, 1, 1), 990);
        int[][] wrong = {{1, 1, 0, -5}, {-1, 0, 0, -5}, {0, 0, 0, -7}, {0, 7, 0, -7}, {0, 1, -1, -7}, {0, 1, 2, -7}};
        for (int[] w : wrong) {
            Due.is(17, "excess(" + w[0] + ", " + w[1] + ", " + w[2] + ")", x.excess(w[0], w[1], w[2]), w[3]);
        }
    }

    private static void whos() {
        InsuredAgainstLuck x = new InsuredAgainstLuck();
        Due.is(18, "who(1, 0), nobody", x.who(1, 0), -1);
        Due.is(18, "who(1, 1), nobody", x.who(1, 1), -1);
        int[][] wrong = {{0, 0}, {7, 0}, {1, -1}, {1, 2}};
        for (int[] w : wrong) {
            Due.is(18, "who(" + w[0] + ", " + w[1] + ")", x.who(w[0], w[1]), -2);
        }
        InsuredAgainstLuck y = Calls.under(HALF, 29, 0, 0, 11);
        Due.is(18, "who(3, 0), of like ones the first", y.who(3, 0), 1);
        Due.is(18, "who(3, 1), the gambler", y.who(3, 1), 3);
        y.put(2, 2, 52);
        Due.is(18, "who(3, 0), by the share", y.who(3, 0), 2);
        Due.is(18, "who(6, 0), by the share", y.who(6, 0), 2);
        // A windfall in the first YEAR counts as much as one in the next.
        Due.is(18, "who(2, 1), alike", Calls.under("odds 50*(year=more);sizes 100;seen 0;", 0, 1).who(2, 1), 0);
        Due.is(18, "who(2, 0), alike", Calls.under("odds 50*(year=more);sizes 100;seen 0;", 0, 1).who(2, 0), 0);
        Due.is(18, "who(1, 1), not alike", Calls.under("odds 50*(year=more);sizes 100;seen 0;", 1, 0).who(1, 1), 1);
        // An HEIR's first is three times as great: in one YEAR 12 of 100 have it.
        InsuredAgainstLuck z = Calls.under("odds 50;sizes 100;seen 0;", 0, 58);
        z.put(1, 2, 100);
        Due.is(18, "who(1, 0), an heir", z.who(1, 0), 1);
        Due.is(18, "who(1, 1), no heir", z.who(1, 1), 0);
    }
}
