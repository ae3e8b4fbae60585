/** Promises 19 to 21: hidden in parts. */
final class HiddenTest {
    private HiddenTest() {
    }

    static void run() {
        hides();
        nones();
        unseens();
    }

    private static void hides() {
        InsuredAgainstLuck x = Calls.under("odds 0;sizes 0;seen much;", 0);
        x.put(0, 1, 0);
        x.put(0, 2, 100);
        // Parts 12 and 8 of 11: 144 and 8 times 121.
        Due.is(19, "hide(0, 100, 0)", x.hide(0, 100, 0), 9);
        Due.is(19, "hide(0, 100, 1)", x.hide(0, 100, 1), 1112);
        Due.is(19, "hide(0, 0, 0), all alike", x.hide(0, 0, 0), 1);
        Due.is(19, "hide(0, 0, 1)", x.hide(0, 0, 1), 0);
        Due.is(19, "hide(0, 99999, 1), always seen", x.hide(0, 99999, 1), 9999900);
        Due.is(19, "hide(0, 99999, 0), always seen", x.hide(0, 99999, 0), 1);
        Due.is(19, "hide(0, 3, 0), of like ones the fewest", x.hide(0, 3, 0), 3);
        // Seen are parts of 50 and more alone.
        InsuredAgainstLuck y = Calls.under("odds 0;sizes 0;seen 40*(49<much);", 0);
        Due.is(19, "hide(0, 99, 0)", y.hide(0, 99, 0), 3);
        Due.is(19, "hide(0, 98, 0)", y.hide(0, 98, 0), 2);
        Due.is(19, "hide(0, 450, 1)", y.hide(0, 450, 1), 9 * 40 * 20);
        Due.is(19, "hide(0, 441, 0)", y.hide(0, 441, 0), 9);
        Due.is(19, "hide(0, 441, 1)", y.hide(0, 441, 1), 0);
        // Seen is whatever is less than 999: of 9 PARTS (8 of 111, one of 110) least is cut off.
        InsuredAgainstLuck z = Calls.under("odds 0;sizes 0;seen 100*(much<999);", 0);
        Due.is(19, "hide(0, 99999, 1), seldom seen", z.hide(0, 99999, 1), 0);
        Due.is(19, "hide(0, 998, 1)", z.hide(0, 998, 1), 45000);
        int[][] wrong = {{1, 1, 0, -5}, {-1, -1, 0, -5}, {0, -1, 0, -7}, {0, 100000, 0, -7}, {0, 1, -1, -7}, {0, 1, 2, -7}};
        for (int[] w : wrong) {
            Due.is(19, "hide(" + w[0] + ", " + w[1] + ", " + w[2] + ")", x.hide(w[0], w[1], w[2]), w[3]);
        }
    }

    private static void nones() {
        InsuredAgainstLuck x = new InsuredAgainstLuck();
        x.life(0, 0, 0);
        int[][] so = {{0, 1}, {10, 1}, {11, 2}, {20, 2}, {21, 3}, {80, 8}, {81, 9}, {90, 9}, {91, -1}, {99999, -1},
            {-1, -7}, {100000, -7}};
        for (int[] s : so) {
            Due.is(20, "none(0, " + s[0] + ")", x.none(0, s[0]), s[1]);
        }
        x.put(0, 1, 0);
        Due.is(20, "none(0, 0), no excess", x.none(0, 0), 1);
        Due.is(20, "none(0, 1), no excess", x.none(0, 1), -1);
        Due.is(20, "none(1, -1)", x.none(1, -1), -5);
        Due.is(20, "none(-1, 1)", x.none(-1, 1), -5);
    }

    private static void unseens() {
        InsuredAgainstLuck x = Calls.under("odds 0;sizes 0;seen much;", 0);
        // Parts 34, 33, 33.
        Due.is(21, "unseen(0, 100, 3, 0)", x.unseen(0, 100, 3, 0), 66 * 67 * 67 / 2);
        Due.is(21, "unseen(0, 100, 3, 1)", x.unseen(0, 100, 3, 1), 500000);
        Due.is(21, "unseen(0, 100, 1, 0)", x.unseen(0, 100, 1, 0), 0);
        Due.is(21, "unseen(0, 100, 1, 1)", x.unseen(0, 100, 1, 1), 1);
        Due.is(21, "unseen(0, 0, 9, 0)", x.unseen(0, 0, 9, 0), 1);
        Due.is(21, "unseen(0, 9, 9, 1)", x.unseen(0, 9, 9, 1), 1000000000000000000L);
        Due.is(21, "unseen(0, 9, 9, 0)", x.unseen(0, 9, 9, 0), 913517247483640899L);
        int[][] wrong = {{1, 1, 1, 0}, {-1, 1, 1, 0}, {0, -1, 1, 0}, {0, 100000, 1, 0}, {0, 1, 0, 0}, {0, 1, 10, 0},
            {0, 1, 1, -1}, {0, 1, 1, 2}};
        for (int[] w : wrong) {
            Due.is(21, "a wrong unseen", x.unseen(w[0], w[1], w[2], w[3]), Calls.NO);
        }
        // By this YEAR and LUCK.
        InsuredAgainstLuck y = Calls.under("odds 0;sizes 0;seen 10+year*20+luck;", 0);
        y.live(0);
        y.put(0, 5, 6);
        Due.is(21, "by year and luck", y.unseen(0, 5, 1, 0), 16);
    }
}
