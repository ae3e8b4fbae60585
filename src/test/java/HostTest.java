/** Promises 40 to 44: the host's sheets, and what lies where. */
final class HostTest {
    private HostTest() {
    }

    static void run() {
        sheets();
        cells();
        copies();
        copiesWithinOne();
        livesBySheets();
        takenForKinds();
        takenForHouses();
    }

    private static void sheets() {
        InsuredAgainstLuck x = new InsuredAgainstLuck();
        int[][] so = {{-1, 0, 1, -2}, {4, 0, 1, -2}, {0, -2, 1, -2}, {0, 3, 1, -2}, {0, 0, 41, -2}, {0, 3, -1, -2}, {0, 0, -1, -14},
            {0, 2, Integer.MIN_VALUE, -14}, {0, 2, Integer.MAX_VALUE, -2}, {0, 0, 0, 1}, {1, 1, 40, 1}, {2, 2, 5, 1},
            {3, -1, 99, 1}, {3, -1, -99, 1}, {4, -1, 0, -2}};
        for (int[] s : so) {
            Due.is(40, "sheet(" + s[0] + ", " + s[1] + ", " + s[2] + ")", x.sheet(s[0], s[1], s[2]), s[3]);
        }
        Due.is(40, "an empty one", x.cell(0, 0, 1), -12);
        Due.is(40, "the last of 40", x.cell(1, 39, 1), 1);
        Due.is(40, "none behind it", x.cell(1, 40, 1), -12);
        Due.is(40, "a missing one", x.cell(3, 0, 1), -11);
        // All 0, also as it was another one ahead.
        Calls.fill(x, 2, 2, 5, 6, 7);
        x.sheet(2, 2, 3);
        Due.is(40, "lives by zeros", x.livesBy(2, 2, 0, 1), 1);
        Due.is(40, "their wealth", x.told(0, 0), 0);
        Due.is(40, "missing again", x.sheet(2, -1, 3), 1);
        Due.is(40, "it is missing", x.cell(2, 0, 1), -11);
        x.sheet(2, 1, 2);
        Due.is(40, "a wrong one changes nothing", x.sheet(2, 0, 41) + x.sheet(2, 0, -1), -16);
        Due.is(40, "it is as it was", x.cell(2, 1, 1), 1);
    }

    private static void cells() {
        InsuredAgainstLuck x = new InsuredAgainstLuck();
        x.sheet(0, 0, 3);
        int[][] so = {{-1, 0, -2}, {4, 0, -2}, {1, 0, -11}, {1, -1, -11}, {0, -1, -12}, {0, 3, -12}, {0, 0, 1}, {0, 2, 1},
            {0, Integer.MAX_VALUE, -12}, {0, Integer.MIN_VALUE, -12}};
        for (int[] s : so) {
            Due.is(41, "cell(" + s[0] + ", " + s[1] + ", 5)", x.cell(s[0], s[1], 5), s[2]);
        }
        // What is written shows as whose WEALTH it is.
        int[][] cut = {{0, 127, 127}, {0, 128, -1}, {0, 256 + 7, 7}, {0, -249, 7}, {0, 255, -1}, {1, 32767, 32767}, {1, 32768, -1},
            {1, 65536 + 300, 300}, {1, -1, -1}, {2, 65536, 65536}, {2, 99999, 99999}, {2, -5, -1}};
        for (int[] c : cut) {
            InsuredAgainstLuck y = new InsuredAgainstLuck();
            Calls.fill(y, 3, c[0], 0, c[1], 0);
            int came = y.livesBy(3, c[0], 0, 1);
            Due.is(41, "cell of sort " + c[0] + " as " + c[1], came == 1 ? y.told(0, 0) : -1, c[2]);
        }
    }

    /** The numbers of an ints sheet, as it tells years: by LUCK sizes are each its own. */
    private static void shows(int promise, InsuredAgainstLuck x, int s, int... wealths) {
        x.image();
        for (int i = 0; i < wealths.length; i++) {
            Calls.fill(x, 3, 2, 0, 0, 0);
            x.copy(s, i, 3, 1, 1);
            x.livesBy(3, 2, 0, 1);
            Due.is(promise, "number " + i + " of sheet " + s, x.told(0, 0), wealths[i]);
            x.back();
        }
    }

    private static void copies() {
        InsuredAgainstLuck x = new InsuredAgainstLuck();
        Calls.fill(x, 0, 2, 1, 2, 3, 4, 5);
        Calls.fill(x, 1, 2, 6, 7, 8);
        x.sheet(2, 1, 5);
        int[][] so = {{-1, 0, 1, 0, 1, -2}, {4, 0, 1, 0, 1, -2}, {0, 0, -1, 0, 1, -2}, {0, 0, 4, 0, 1, -2}, {3, 0, 9, 0, 1, -2},
            {3, 0, 0, 0, 1, -11}, {0, 0, 3, 0, 1, -11}, {2, 0, 3, 0, 1, -11}, {0, 0, 2, 0, 1, -13}, {2, 0, 0, -1, -1, -13},
            {0, -1, 1, 0, 1, -12}, {0, 0, 1, -1, 1, -12}, {0, 0, 1, 0, -1, -12}, {0, 0, 1, 0, 4, -12}, {1, 0, 0, 3, 3, -12},
            {0, 3, 1, 0, 3, -12}, {0, 6, 1, 0, 0, -12}, {0, 0, 1, 4, 0, -12}, {0, 5, 1, 3, 0, 0}, {0, 1, 1, 0, Integer.MAX_VALUE, -12},
            {0, Integer.MAX_VALUE, 1, 0, 1, -12}, {0, 0, 1, Integer.MAX_VALUE, Integer.MAX_VALUE, -12}, {0, 0, 1, 0, 0, 0}};
        for (int[] s : so) {
            Due.is(42, "copy(" + s[0] + ", " + s[1] + ", " + s[2] + ", " + s[3] + ", " + s[4] + ")",
                x.copy(s[0], s[1], s[2], s[3], s[4]), s[5]);
        }
        shows(42, x, 1, 6, 7, 8);
        x.sheet(3, -1, 0);
        Due.is(42, "copy(0, 3, 1, 1, 2)", x.copy(0, 3, 1, 1, 2), 2);
        shows(42, x, 1, 6, 4, 5);
        shows(42, x, 0, 1, 2, 3, 4, 5);
    }

    private static void copiesWithinOne() {
        InsuredAgainstLuck x = new InsuredAgainstLuck();
        Calls.fill(x, 0, 2, 1, 2, 3, 4, 5);
        Due.is(42, "copy(0, 0, 0, 1, 4)", x.copy(0, 0, 0, 1, 4), 4);
        shows(42, x, 0, 1, 1, 2, 3, 4);
        Due.is(42, "copy(0, 1, 0, 0, 4)", x.copy(0, 1, 0, 0, 4), 4);
        shows(42, x, 0, 1, 2, 3, 4, 4);
    }

    private static void livesBySheets() {
        InsuredAgainstLuck x = new InsuredAgainstLuck();
        // A life, a wrong kind, a wrong wealth, a wrong house, a life.
        Calls.fill(x, 0, 1, 9, 17, 60, 4, 60, 0, 0, 0, -1, 0, 0, 0, 12, 59, 1, 2);
        Due.is(43, "livesBy(0, 1, 1, 5)", x.livesBy(0, 1, 1, 5), 2);
        Due.is(43, "count(0)", x.count(0), 2);
        int[] is = {60, 10, 50, 4, -1, 0, 1, 7};
        for (int what = 0; what < is.length; what++) {
            Due.is(43, "told(0, " + what + ")", x.told(0, what), is[what]);
        }
        Due.is(43, "told(1, 0)", x.told(1, 0), 1);
        int[][] so = {{-1, 1, 0, 1, -2}, {4, 1, 0, 1, -2}, {0, -1, 0, 1, -2}, {0, 3, 0, 1, -2}, {0, 1, 0, -1, -2}, {0, 1, 0, 6, -2},
            {1, 1, 0, 1, -11}, {1, 1, -9, 0, -11}, {0, 0, 0, 1, -13}, {0, 2, -9, 1, -13}, {0, 1, -1, 1, -12}, {0, 1, -1, 0, 0},
            {0, 1, 99, 0, 0}, {0, 1, 14, 1, -12}, {0, 1, Integer.MAX_VALUE, 1, -12}, {0, 1, Integer.MIN_VALUE, 5, -12}};
        for (int[] s : so) {
            Due.is(43, "livesBy(" + s[0] + ", " + s[1] + ", " + s[2] + ", " + s[3] + ")", x.livesBy(s[0], s[1], s[2], s[3]), s[4]);
        }
        Due.is(43, "none came", x.count(0), 2);
        // What stood ahead of a place outside came.
        Due.is(43, "livesBy(0, 1, 10, 3)", x.livesBy(0, 1, 10, 3), -12);
        Due.is(43, "one came", x.count(0), 3);
        // There is room for two more of three.
        Calls.fill(x, 2, 0, 1, 1, 1, 2, 2, 2, 3, 3, 3);
        Due.is(43, "livesBy(2, 0, 0, 3)", x.livesBy(2, 0, 0, 3), 2);
        Due.is(43, "livesBy(2, 0, 0, 3), full", x.livesBy(2, 0, 0, 3), 0);
        Due.is(43, "livesBy(2, 0, 0, 4), full", x.livesBy(2, 0, 0, 4), -12);
    }

    private static void takenForKinds() {
        // By the document: a WARD is a GAMBLER, a CLUMSY one a CAREFUL one, and all are LIVES.
        String[] is = {"0", "01", "02", "013", "024", "05"};
        for (int kind = 0; kind < 6; kind++) {
            InsuredAgainstLuck x = new InsuredAgainstLuck();
            x.life(0, 0, 0);
            x.life(kind * 10 + 9, 0, 0);
            for (int asked = 0; asked < 6; asked++) {
                int want = is[kind].indexOf('0' + asked) >= 0 ? 1 : -13;
                Due.is(44, "a " + kind + " taken for a " + asked, x.taken(1, asked), want);
            }
            Due.is(44, "a life taken for a house", x.taken(1, 6), -13);
        }
    }

    private static void takenForHouses() {
        InsuredAgainstLuck x = new InsuredAgainstLuck();
        x.life(0, 0, 0);
        x.life(0, 0, 11);
        x.life(0, 0, 11);
        for (int house = 0; house < 12; house++) {
            int lives = house == 0 || house == 11 ? 1 : 0;
            Due.is(44, "taken(" + (5 + house) + ", 6)", x.taken(5 + house, 6), lives);
            Due.is(44, "taken(" + (5 + house) + ", 0)", x.taken(5 + house, 0), -13);
        }
        x.put(1, 3, 7);
        Due.is(44, "the second one's house", x.taken(12, 6), 1);
        Due.is(44, "the first one", x.taken(0, 0), 0);
        int[][] wrong = {{0, -1, -2}, {0, 7, -2}, {-1, 7, -2}, {-1, 0, -12}, {17, 6, -12}, {3, 0, -11}, {4, 6, -11},
            {Integer.MAX_VALUE, 6, -12}, {Integer.MIN_VALUE, 0, -12}, {2, 0, 2}};
        for (int[] w : wrong) {
            Due.is(44, "taken(" + w[0] + ", " + w[1] + ")", x.taken(w[0], w[1]), w[2]);
        }
    }
}
