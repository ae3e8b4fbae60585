/** Promises 22 and 23: rounds of an adjuster. */
final class AdjusterTest {
    private AdjusterTest() {
    }

    static void run() {
        shortest();
        byWhatIsTaken();
        ofLikeOnes();
        wrong();
        offices();
    }

    private static InsuredAgainstLuck livingIn(int... houses) {
        InsuredAgainstLuck x = new InsuredAgainstLuck();
        for (int house : houses) {
            x.life(0, 0, house);
        }
        return x;
    }

    private static void round(InsuredAgainstLuck x, int home, int goalOf, int least, int digits) {
        Due.is(22, "round(" + home + ", " + goalOf + ", 0)", x.round(home, goalOf, 0), least);
        Due.is(22, "round(" + home + ", " + goalOf + ", 1)", x.round(home, goalOf, 1), digits);
    }

    private static void shortest() {
        round(livingIn(), 4, 0, 0, 0);
        round(livingIn(7), 1, 0, 6, 1);
        round(livingIn(11), 1, 0, 2, 1);
        // From 0: to 11, and all the way back; not home at last.
        round(livingIn(3, 11), 0, 0, 5, 21);
        round(livingIn(3, 6, 9, 0, 11), 10, 0, 10, 35412);
        round(livingIn(5, 4, 3, 2, 1), 0, 0, 5, 54321);
    }

    private static void byWhatIsTaken() {
        // Taken is 45 of each.
        InsuredAgainstLuck x = livingIn(4, 10);
        round(x, 0, 0, 8, 21);
        round(x, 0, 1, 45 * 2 + 45 * 8, 21);
        x.put(0, 2, 100);
        // As much as 45 * 2 + 90 * 8 the other way round: the first of like ones.
        round(x, 0, 1, 90 * 4 + 45 * 10, 12);
        round(x, 0, 0, 8, 21);
        x.put(1, 5, 9);
        // SIZE by LUCK 9 is 190.
        round(x, 0, 1, 90 * 2 + 90 * 8, 21);
        x.put(0, 2, 0);
        x.put(1, 2, 0);
        round(x, 0, 1, 0, 12);
        round(livingIn(), 11, 1, 0, 0);
        // Five on one way, of whom the last ones are taken most.
        InsuredAgainstLuck y = livingIn(1, 2, 3, 4, 5);
        round(y, 0, 1, 45 * 15, 12345);
        y.put(0, 2, 0);
        y.put(1, 2, 0);
        y.put(2, 2, 0);
        round(y, 5, 1, 45, 54123);
        y.put(4, 2, 100);
        round(y, 4, 1, 90, 45123);
    }

    private static void ofLikeOnes() {
        round(livingIn(2, 2, 2, 2, 2), 2, 0, 0, 12345);
        round(livingIn(2, 10), 0, 0, 6, 12);
        round(livingIn(10, 2), 0, 0, 6, 12);
        round(livingIn(6, 0, 6, 0), 3, 0, 9, 1324);
    }

    private static void wrong() {
        InsuredAgainstLuck x = livingIn(1);
        int[][] wrong = {{-1, 0, 0}, {12, 0, 0}, {0, -1, 0}, {0, 2, 0}, {0, 0, -1}, {0, 0, 2}};
        for (int[] w : wrong) {
            Due.is(22, "round(" + w[0] + ", " + w[1] + ", " + w[2] + ")", x.round(w[0], w[1], w[2]), -2);
        }
        Due.is(23, "office(-1)", x.office(-1), -2);
        Due.is(23, "office(2)", x.office(2), -2);
    }

    private static void office(InsuredAgainstLuck x, int house, int way) {
        Due.is(23, "office(0)", x.office(0), house);
        Due.is(23, "office(1)", x.office(1), way);
    }

    private static void offices() {
        office(livingIn(), 0, 0);
        office(livingIn(11), 11, 0);
        office(livingIn(8, 5), 5, 3);
        office(livingIn(11, 1), 1, 2);
        // From 4 by 7 to 10, or from 10 by 7 to 4.
        office(livingIn(10, 4, 7), 4, 6);
        office(livingIn(0, 2, 4, 6, 9), 0, 9);
    }
}
