/** Promises 24 to 27: who is ruined with whom. */
final class RuinTest {
    private RuinTest() {
    }

    static void run() {
        ruins();
        poorOnes();
        worsts();
        chainsAndRings();
    }

    /** Lives with 100 each, of whom each insures the next one. */
    private static InsuredAgainstLuck row(int lives) {
        InsuredAgainstLuck x = new InsuredAgainstLuck();
        for (int l = 0; l < lives; l++) {
            x.life(0, 100, 0);
        }
        for (int l = 0; l + 1 < lives; l++) {
            x.put(l, 4, l + 1);
        }
        return x;
    }

    private static void ruin(InsuredAgainstLuck x, int first, int last, int steps) {
        Due.is(24, "ruin(" + first + ", 0)", x.ruin(first, 0), last);
        Due.is(24, "ruin(" + first + ", 1)", x.ruin(first, 1), steps);
    }

    private static void ruins() {
        InsuredAgainstLuck x = row(4);
        ruin(x, 0, 0, 0);
        ruin(x, 8, 8, 0);
        ruin(x, 15, 15, 0);
        x.put(3, 1, 50);
        ruin(x, 8, 8, 0);
        x.put(3, 1, 51);
        ruin(x, 8, 12, 1);
        x.put(2, 1, 51);
        x.put(1, 1, 51);
        ruin(x, 8, 15, 3);
        ruin(x, 4, 7, 2);
        ruin(x, 1, 1, 0);
        ruin(x, 9, 15, 2);
        x.put(1, 0, 101);
        ruin(x, 8, 12, 1);
        Due.is(24, "ruin(16, 0)", x.ruin(16, 0), -2);
        Due.is(24, "ruin(-1, 0)", x.ruin(-1, 0), -2);
        Due.is(24, "ruin(0, 2)", x.ruin(0, 2), -2);
        Due.is(24, "ruin(0, -1)", x.ruin(0, -1), -2);
        Due.is(24, "nothing changed", x.told(3, 0), 100);
        InsuredAgainstLuck none = row(0);
        ruin(none, 0, 0, 0);
        Due.is(24, "ruin(1, 0), no lives", none.ruin(1, 0), -2);
    }

    private static void poorOnes() {
        InsuredAgainstLuck x = row(3);
        x.put(2, 0, 50);
        ruin(x, 0, 0, 0);
        x.put(2, 0, 49);
        ruin(x, 0, 4, 1);
        x.put(2, 1, 999);
        ruin(x, 0, 6, 2);
        x.set(1, 0);
        ruin(x, 0, 0, 0);
        ruin(x, 4, 6, 1);
        x.put(1, 0, 999);
        ruin(x, 4, 4, 0);
        // One by one, as many steps as lives.
        InsuredAgainstLuck five = row(5);
        five.put(4, 0, 49);
        for (int l = 1; l < 5; l++) {
            five.put(l, 1, 51);
        }
        ruin(five, 0, 31, 5);
        ruin(five, 16, 31, 4);
        // In a ring of two: the second falls by the first, not by itself.
        InsuredAgainstLuck ring = row(2);
        ring.put(1, 4, 0);
        ring.put(0, 1, 60);
        ruin(ring, 1, 3, 1);
        ruin(ring, 2, 2, 0);
    }

    private static void worst(InsuredAgainstLuck x, int who, int many) {
        Due.is(25, "worst(0)", x.worst(0), who);
        Due.is(25, "worst(1)", x.worst(1), many);
    }

    private static void worsts() {
        worst(row(0), -1, -1);
        InsuredAgainstLuck x = row(4);
        worst(x, 0, 1);
        x.put(3, 1, 51);
        worst(x, 3, 2);
        x.put(2, 1, 51);
        worst(x, 3, 3);
        x.put(1, 1, 51);
        x.put(2, 1, 10);
        worst(x, 1, 2);
        Due.is(25, "worst(2)", x.worst(2), -2);
        Due.is(25, "worst(-1)", x.worst(-1), -2);
        Due.is(25, "worst(2), no lives", row(0).worst(2), -2);
    }

    private static void chainsAndRings() {
        InsuredAgainstLuck x = row(5);
        for (int l = 0; l < 5; l++) {
            Due.is(26, "chain(" + l + ")", x.chain(l), 4 - l);
        }
        Due.is(27, "rings(), a row", x.rings(), 0);
        x.put(4, 4, 2);
        int[] chains = {4, 3, 2, 2, 2};
        for (int l = 0; l < 5; l++) {
            Due.is(26, "chain(" + l + "), into a ring", x.chain(l), chains[l]);
        }
        Due.is(27, "rings(), of three", x.rings(), 28);
        x.put(0, 4, 1);
        x.put(1, 4, 0);
        Due.is(27, "rings(), two of them", x.rings(), 31);
        Due.is(26, "chain(0), of two", x.chain(0), 1);
        x.put(4, 4, -1);
        Due.is(27, "rings(), of two", x.rings(), 3);
        Due.is(26, "chain(4), insures nobody", x.chain(4), 0);
        Due.is(26, "chain(5)", x.chain(5), -5);
        Due.is(26, "chain(-1)", x.chain(-1), -5);
        Due.is(27, "rings(), no lives", row(0).rings(), 0);
    }
}
