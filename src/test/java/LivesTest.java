/** Promises 8 to 12: lives, their kinds, a windfall. */
final class LivesTest {
    private LivesTest() {
    }

    static void run() {
        comes();
        puts();
        tells();
        kindsOfWindfalls();
        bounds();
        wrongWindfalls();
        claims();
    }

    private static void comes() {
        InsuredAgainstLuck x = new InsuredAgainstLuck();
        Due.is(8, "life(-1, 0, 0)", x.life(-1, 0, 0), -2);
        Due.is(8, "life(60, 0, 0)", x.life(60, 0, 0), -2);
        Due.is(8, "life(0, -1, 0)", x.life(0, -1, 0), -2);
        Due.is(8, "life(0, 100000, 0)", x.life(0, 100000, 0), -2);
        Due.is(8, "life(0, 0, -1)", x.life(0, 0, -1), -2);
        Due.is(8, "life(0, 0, 12)", x.life(0, 0, 12), -2);
        Due.is(8, "none came", x.count(0), 0);
        Due.is(8, "life(59, 99999, 11)", x.life(59, 99999, 11), 0);
        int[] comesWith = {99999, 10, 50, 11, -1, 0, 5, 9};
        for (int what = 0; what < comesWith.length; what++) {
            Due.is(8, "told(0, " + what + ")", x.told(0, what), comesWith[what]);
        }
        for (int l = 1; l < 5; l++) {
            Due.is(8, "life " + l, x.life(0, 0, 0), l);
        }
        Due.is(8, "a sixth", x.life(0, 0, 0), -4);
        Due.is(8, "a wrong sixth", x.life(0, 0, 12), -2);
    }

    private static void puts() {
        InsuredAgainstLuck x = new InsuredAgainstLuck();
        x.life(0, 7, 3);
        x.life(0, 8, 4);
        int[][] ranges = {{0, 99999, 8}, {0, 999, 10}, {0, 100, 50}, {0, 11, 4}, {-1, 0, -1}, {0, 99, 0}};
        for (int what = 0; what < ranges.length; what++) {
            int least = ranges[what][0], most = ranges[what][1], first = ranges[what][2];
            String call = "put(1, " + what + ", ..)";
            Due.is(9, call + " below", x.put(1, what, least - 1), -7);
            Due.is(9, call + " above", x.put(1, what, what == 4 ? 2 : most + 1), -7);
            Due.is(9, call + " most", x.put(1, what, most), first);
            Due.is(9, call + " least", x.put(1, what, least), most);
            Due.is(9, call + " is", x.told(1, what), least);
        }
        Due.is(9, "put(1, 4, 1), oneself", x.put(1, 4, 1), -7);
        Due.is(9, "put(0, 4, 1)", x.put(0, 4, 1), -1);
        Due.is(9, "put(0, 4, 0), oneself", x.put(0, 4, 0), -7);
        Due.is(9, "put(0, 6, 0)", x.put(0, 6, 0), -7);
        Due.is(9, "put(0, -1, 0)", x.put(0, -1, 0), -7);
        Due.is(9, "put(2, ..)", x.put(2, 0, 0), -5);
        Due.is(9, "put(-1, 9, ..)", x.put(-1, 9, 0), -5);
        Due.is(9, "another one is as it was", x.told(0, 0), 7);
    }

    private static void tells() {
        InsuredAgainstLuck x = new InsuredAgainstLuck();
        x.life(0, 0, 0);
        x.life(46, 70, 5);
        int[] is = {70, 10, 50, 5, -1, 0, 4, 6};
        for (int what = 0; what < is.length; what++) {
            Due.is(10, "told(1, " + what + ")", x.told(1, what), is[what]);
        }
        Due.is(10, "told(1, 8)", x.told(1, 8), -7);
        Due.is(10, "told(1, -1)", x.told(1, -1), -7);
        Due.is(10, "told(2, 0)", x.told(2, 0), -5);
        Due.is(10, "told(-1, 8)", x.told(-1, 8), -5);
    }

    private static void windfallIs(InsuredAgainstLuck x, int l, int odds, int size, int taken, int seen) {
        int[] is = {odds, size, taken, seen};
        for (int what = 0; what < is.length; what++) {
            Due.is(11, "windfall(" + l + ", " + what + ") of kind " + x.told(l, 6), x.windfall(l, what), is[what]);
        }
    }

    private static void kindsOfWindfalls() {
        // Odd numbers, so that each cut shows.
        InsuredAgainstLuck x = Calls.under("odds 31;sizes 207;seen 41;", 3, 13, 23, 33, 43);
        windfallIs(x, 0, 31, 207, 98, 41);
        windfallIs(x, 1, 37, 103, 46, 41);
        windfallIs(x, 2, 15, 207, 98, 32);
        windfallIs(x, 3, 37, 103, 46, 97);
        windfallIs(x, 4, 15, 177, 83, 52);
        x.put(3, 5, 2);
        Due.is(11, "a ward's, TIMES 2", x.windfall(3, 1), 103);
        x.put(3, 5, 3);
        Due.is(11, "a ward's, TIMES 3", x.windfall(3, 1), 51);
        InsuredAgainstLuck y = Calls.under("odds 31;sizes 207;seen 41;", 53, 50, 59);
        windfallIs(y, 0, 7, 621, 305, 41);
        y.put(0, 5, 1);
        windfallIs(y, 0, 7, 207, 98, 41);
        // HEIR's years: 4, 9, .. with MORE 3; 1, 3, .. with 0; 10, 21, .. with 9.
        for (int year = 0; year < 23; year++) {
            Due.is(11, "heir 3's odds in " + year, y.windfall(0, 0), year % 5 == 4 ? 82 : 7);
            Due.is(11, "heir 0's odds in " + year, y.windfall(1, 0), year % 2 == 1 ? 82 : 7);
            Due.is(11, "heir 9's odds in " + year, y.windfall(2, 0), year % 11 == 10 ? 82 : 7);
            y.live(0);
        }
    }

    private static void bounds() {
        InsuredAgainstLuck x = Calls.under("odds 95;sizes 50;seen 20;", 19, 29, 39, 49, 50);
        windfallIs(x, 0, 100, 25, 7, 20);
        windfallIs(x, 1, 47, 50, 20, 0);
        windfallIs(x, 2, 100, 25, 7, 91);
        // CAREFUL's SEEN would be -7: CLUMSY's is 20 more than that, not than the bound.
        windfallIs(x, 3, 47, 0, 0, 13);
        x.live(0);
        Due.is(11, "an heir's bound", x.windfall(4, 0), 100);
        InsuredAgainstLuck y = Calls.under("odds 0;sizes 999;seen 100;", 50, 40, 20);
        Due.is(11, "an heir's three times", y.windfall(0, 1), 2997);
        Due.is(11, "a clumsy one's bound", y.windfall(1, 3), 100);
        Due.is(11, "a careful one's", y.windfall(2, 3), 100);
        // Hidden is all of the windfall, told to the text as 999 at most.
        InsuredAgainstLuck z = Calls.under("odds 0;sizes 30+luck;seen much;", 0, 50);
        Due.is(11, "seen by how much is hidden", z.windfall(0, 3), 30);
        Due.is(11, "three times that", z.windfall(1, 3), 90);
        z.put(0, 5, 9);
        Due.is(11, "by luck", z.windfall(0, 3), 39);
        InsuredAgainstLuck w = Calls.under("odds 0;sizes 999;seen (much=999)*60;", 50);
        Due.is(11, "999 at most", w.windfall(0, 3), 60);
    }

    private static void wrongWindfalls() {
        InsuredAgainstLuck x = new InsuredAgainstLuck();
        Due.is(11, "windfall(0, 0), no lives", x.windfall(0, 0), -5);
        x.life(0, 0, 0);
        Due.is(11, "windfall(0, -1)", x.windfall(0, -1), -7);
        Due.is(11, "windfall(0, 4)", x.windfall(0, 4), -7);
        Due.is(11, "windfall(1, 4)", x.windfall(1, 4), -5);
        Due.is(11, "windfall(-1, 0)", x.windfall(-1, 0), -5);
    }

    private static void claims() {
        InsuredAgainstLuck x = new InsuredAgainstLuck();
        x.life(0, 0, 0);
        Due.is(12, "claim(0, 0)", x.claim(0, 0), 0);
        Due.is(12, "claim(0, 10), the excess", x.claim(0, 10), 0);
        Due.is(12, "claim(0, 11), cut", x.claim(0, 11), 0);
        Due.is(12, "claim(0, 12)", x.claim(0, 12), 1);
        Due.is(12, "claim(0, 99999)", x.claim(0, 99999), 49994);
        Due.is(12, "claim(0, 100000)", x.claim(0, 100000), -7);
        Due.is(12, "claim(0, -1)", x.claim(0, -1), -7);
        Due.is(12, "claim(1, -1)", x.claim(1, -1), -5);
        x.put(0, 1, 0);
        x.put(0, 2, 100);
        Due.is(12, "all of it", x.claim(0, 99999), 99999);
        x.put(0, 2, 0);
        Due.is(12, "nothing of it", x.claim(0, 99999), 0);
        x.put(0, 1, 999);
        x.put(0, 2, 33);
        Due.is(12, "a third of 100, cut", x.claim(0, 1100), 33);
    }
}
