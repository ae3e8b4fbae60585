/**
 * Promises 28 to 30: years by lots. By seed 0 the LOTS, modulo 100, are 71 94 86 37 41 83 61 5 91 31,
 * by seed 1: 42 88 25 27 35.
 */
final class LotsTest {
    private static final int[] SEED_0 = {71, 94, 86, 37, 41, 83, 61, 5, 91, 31};
    private static final String HALF = "odds 50;sizes 100;seen 0;";

    private LotsTest() {
    }

    static void run() {
        lotsBySeed();
        lives();
        livesOn();
        runs();
        firstHappyOne();
        wrongRuns();
        odds();
    }

    private static void lotsBySeed() {
        for (int i = 0; i < SEED_0.length; i++) {
            // The windfall in YEAR i alone, if its LOT is below.
            for (int above = 0; above < 2; above++) {
                String text = "odds (year=" + i + ")*" + (SEED_0[i] + above) + ";sizes 30;seen 0;";
                Due.is(29, "run(0, 10, 10) under " + text, Calls.under(text, 0).run(0, 10, 10), above == 0 ? 0 : 20);
            }
        }
        InsuredAgainstLuck x = Calls.under("odds 42;sizes 30;seen 0;", 0);
        Due.is(28, "live(1), 42 isn't below 42", x.live(1), 0);
        InsuredAgainstLuck y = Calls.under("odds 43;sizes 30;seen 0;", 0);
        Due.is(28, "live(1), 42 is below 43", y.live(1), 1);
    }

    private static void lives() {
        // Five LOTS in one YEAR, for each by number, also for whom no windfall can be.
        InsuredAgainstLuck x = Calls.under("odds 85+more;sizes 100;seen 0;", 0, 0, 1, 2, 22);
        Due.is(28, "live(0)", x.live(0), 1 + 8 + 16);
        int[] wealth = {55, 0, 0, 55, 55};
        for (int l = 0; l < 5; l++) {
            Due.is(28, "wealth of " + l, x.told(l, 0), wealth[l]);
            Due.is(28, "luck of " + l, x.told(l, 5), wealth[l] / 55);
        }
        Due.is(28, "the fund", x.count(2), 135);
        Due.is(28, "the year", x.count(1), 1);
    }

    private static void livesOn() {
        InsuredAgainstLuck x = new InsuredAgainstLuck();
        Due.is(28, "live(-1)", x.live(-1), -2);
        Due.is(28, "live(100000)", x.live(100000), -2);
        Due.is(28, "live(99999), nobody", x.live(99999), 0);
        Due.is(28, "the year", x.count(1), 1);
        InsuredAgainstLuck y = Calls.under("odds 100;sizes 999;seen 0;", 50, 0, 0, 0, 0);
        for (int l = 1; l < 5; l++) {
            y.put(l, 1, 0);
            y.put(l, 2, 100);
        }
        y.put(0, 2, 0);
        y.put(0, 0, 98000);
        y.put(1, 5, 98);
        Due.is(28, "a wealth before its bound", y.live(5) & 30, 30);
        for (int i = 1; i < 99; i++) {
            y.live(i);
        }
        Due.is(28, "the year at its bound", y.count(1), 99);
        Due.is(28, "live(0) in year 99", y.live(0), -4);
        Due.is(28, "live(-1) in year 99", y.live(-1), -2);
        Due.is(28, "the fund at its bound", y.count(2), 99999);
        Due.is(28, "the wealth at its bound", y.told(0, 0), 99999);
        Due.is(28, "the luck at its bound", y.told(1, 5), 99);
        Due.is(29, "run(0, 3, 0) behind year 99", y.run(0, 3, 0), 3 * 4 * 999);
        Due.is(29, "the wealth at its bound, in thought", y.run(0, 40, 10), 99999);
    }

    private static void runs() {
        InsuredAgainstLuck x = Calls.under(HALF, 0);
        Due.is(29, "run(0, 10, 0)", x.run(0, 10, 0), 180);
        Due.is(29, "run(0, 10, 10)", x.run(0, 10, 10), 220);
        Due.is(29, "run(0, 0, 0)", x.run(0, 0, 0), 0);
        Due.is(29, "run(0, 3, 0)", x.run(0, 3, 0), 0);
        Due.is(29, "run(0, 4, 0)", x.run(0, 4, 0), 45);
        Due.is(29, "nothing came of it: wealth", x.told(0, 0), 0);
        Due.is(29, "nothing came of it: luck", x.told(0, 5), 0);
        Due.is(29, "nothing came of it: year", x.count(1), 0);
        Due.is(29, "nothing came of it: fund", x.count(2), 0);
        // LOTS go on from YEAR to YEAR, two in each: 71 94, 86 37, 41 83, ..
        InsuredAgainstLuck y = Calls.under(HALF, 0, 0);
        Due.is(29, "run(0, 5, 10)", y.run(0, 5, 10), 55);
        Due.is(29, "run(0, 5, 11)", y.run(0, 5, 11), 165);
        Due.is(29, "run(0, 5, 0)", y.run(0, 5, 0), 180);
        // By LUCK that grows in thought: 100, 110, 120, 130.
        InsuredAgainstLuck z = Calls.under("odds 50;sizes 100+luck*10;seen 0;", 0);
        Due.is(29, "run(0, 10, 0), by luck", z.run(0, 10, 0), 45 + 50 + 55 + 60);
        // More is taken of all than the FUND could hold.
        InsuredAgainstLuck w = Calls.under("odds 100;sizes 999;seen 0;", 0, 0, 0, 0, 0);
        for (int l = 0; l < 5; l++) {
            w.put(l, 1, 0);
            w.put(l, 2, 100);
        }
        Due.is(29, "run(0, 40, 0)", w.run(0, 40, 0), 199800);
    }

    private static void firstHappyOne() {
        InsuredAgainstLuck x = Calls.under(HALF, 0, 0);
        x.set(0, 100);
        // 1 has windfalls in YEARS 1, 3, 4; 0 has one in 2.
        Due.is(29, "run(0, 3, 1)", x.run(0, 3, 1), -1);
        Due.is(29, "run(0, 3, 2)", x.run(0, 3, 2), -1);
        Due.is(29, "run(0, 4, 1)", x.run(0, 4, 1), 1);
        Due.is(29, "run(0, 4, 2)", x.run(0, 4, 2), 3);
        Due.is(29, "run(0, 40, 2)", x.run(0, 40, 2), 3);
        x.set(0, 110);
        Due.is(29, "just the goal", x.run(0, 4, 2), 3);
        x.set(0, 111);
        Due.is(29, "one less than the goal", x.run(0, 4, 2), -1);
        x.put(0, 0, 200);
        Due.is(29, "happy from the first on", x.run(0, 1, 1), 0);
        Due.is(29, "ahead of the first", x.run(0, 1, 2), 0);
        Due.is(29, "behind no year", x.run(0, 0, 1), -1);
        Due.is(29, "behind no year", x.run(0, 0, 2), -1);
        x.put(0, 0, 0);
        x.put(1, 0, 200);
        Due.is(29, "the second from the first on", x.run(0, 9, 1), 1);
        x.set(0, 0);
        Due.is(29, "of several the first", x.run(0, 9, 1), 0);
    }

    private static void wrongRuns() {
        InsuredAgainstLuck x = Calls.under(HALF, 0, 0);
        int[][] wrong = {{-1, 1, 0, -2}, {100000, 1, 0, -2}, {0, -1, 0, -2}, {0, 41, 0, -2}, {0, -1, 3, -2}, {0, 1, -1, -7},
            {0, 1, 3, -7}, {0, 1, 9, -7}, {0, 1, 12, -7}, {0, 1, 15, -7}, {0, 1, Integer.MIN_VALUE, -7}};
        for (int[] w : wrong) {
            Due.is(29, "run(" + w[0] + ", " + w[1] + ", " + w[2] + ")", x.run(w[0], w[1], w[2]), w[3]);
        }
        Due.is(29, "run(99999, 40, 11) is one", x.run(99999, 40, 11) >= 0 ? 1 : 0, 1);
    }

    private static void odds() {
        InsuredAgainstLuck x = Calls.under(HALF, 0);
        x.set(0, 110);
        // By seed 0 happy behind 5 YEARS, by seed 1 behind 3.
        Due.is(30, "odds(0, 302, 0)", x.odds(0, 302, 0), 1);
        Due.is(30, "odds(0, 302, 1)", x.odds(0, 302, 1), 2);
        Due.is(30, "odds(0, 202, 0)", x.odds(0, 202, 0), 0);
        Due.is(30, "odds(0, 202, 1)", x.odds(0, 202, 1), 1);
        Due.is(30, "odds(0, 502, 0)", x.odds(0, 502, 0), 1);
        Due.is(30, "odds(0, 502, 1)", x.odds(0, 502, 1), 1);
        Due.is(30, "odds(1, 301, 0)", x.odds(1, 301, 0), 1);
        Due.is(30, "odds(0, 50, 0), no years", x.odds(0, 50, 0), 0);
        Due.is(30, "odds(99999, 4050, 1) is one", x.odds(99999, 4050, 1) > 0 ? 1 : 0, 1);
        // Above 99999, too: (100001 times 48271) modulo 2147483647 is 532180977, so 77.
        Due.is(30, "odds(99999, 102, 0), by 77", oddsByLot(77, 0), 1);
        Due.is(30, "odds(99999, 102, 1), by 77", oddsByLot(77, 1), 2);
        Due.is(30, "odds(99999, 102, 1), by 78", oddsByLot(78, 1), 1);
        int[][] wrong = {{-1, 101, 0}, {100000, 101, 0}, {0, -1, 0}, {0, 100, 0}, {0, 151, 0}, {0, 4101, 0}, {0, 4100, 0},
            {0, 101, -1}, {0, 101, 2}, {0, Integer.MIN_VALUE, 0}, {0, Integer.MAX_VALUE, 0}};
        for (int[] w : wrong) {
            Due.is(30, "odds(" + w[0] + ", " + w[1] + ", " + w[2] + ")", x.odds(w[0], w[1], w[2]), Calls.NO);
        }
    }

    private static long oddsByLot(int odds, int part) {
        InsuredAgainstLuck x = Calls.under("odds " + odds + ";sizes 100;seen 0;", 0);
        x.set(0, 1);
        return x.odds(99999, 102, part);
    }
}
