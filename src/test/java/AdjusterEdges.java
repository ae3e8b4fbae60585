/** The edges of promises 22 and 23, a sentence of the document each: rounds of an adjuster. */
final class AdjusterEdges {
    private AdjusterEdges() {
    }

    static void run() {
        rounds();
        theShorterWayRound();
        ofLikeOnesTheFirst();
        noLives();
        whatIsTakenTimesTheWay();
        offices();
    }

    private static Scene livingIn(int... houses) {
        Scene s = Scene.NEW;
        for (int house : houses) {
            s = s.then("life 0 0 " + house);
        }
        return s;
    }

    private static void round(Scene s, String homeGoal, int least, int digits) {
        s.answers(22, "round " + homeGoal + " 0", least);
        s.answers(22, "round " + homeGoal + " 1", digits);
    }

    private static void rounds() {
        // From a HOUSE (0 .. 11); goalOf 0, 1; what 0, 1. BAD.
        Scene.TOWN.ends(22, "round # 0 0", 0, 8, 11, 9, -2);
        Scene.TOWN.ends(22, "round 0 # 0", 0, 8, 1, 216, -2);
        Scene.TOWN.ends(22, "round 0 0 #", 0, 8, 1, 132, -2);
        for (int goal = 0; goal <= 1; goal++) {
            Scene.TOWN.unchanged(22, "round 0 " + goal + " 0", goal == 0 ? 8 : 216);
            Scene.TOWN.unchanged(22, "round 0 " + goal + " 1", 132);
            Scene.NEW.beyond(22, "round # " + goal + " 0", 0, 11, -2);
        }
        Scene.NEW.beyond(22, "round 0 # 0", 0, 1, -2);
        Scene.NEW.beyond(22, "round 0 0 #", 0, 1, -2);
    }

    private static void theShorterWayRound() {
        // HOUSES stand in a ring of 12: 6 is as far both ways.
        int[] ways = {0, 1, 2, 3, 4, 5, 6, 5, 4, 3, 2, 1};
        for (int home = 0; home < 12; home++) {
            for (int house = 0; house < 12; house++) {
                livingIn(house).answers(22, "round " + home + " 0 0", ways[Math.floorMod(house - home, 12)]);
            }
        }
        // Not home at last, and not to one twice: all live in one HOUSE, or in the HOUSE from which it goes.
        round(livingIn(6), "0 0", 6, 1);
        round(livingIn(6, 6, 6), "0 0", 6, 123);
        round(livingIn(3, 3, 3, 3, 3), "3 0", 0, 12345);
        round(livingIn(11, 0, 1), "0 0", 3, 123);
    }

    private static void ofLikeOnesTheFirst() {
        // By whom first, then next, ..
        round(livingIn(1, 11), "0 0", 3, 12);
        round(livingIn(11, 1), "0 0", 3, 12);
        round(livingIn(6, 6, 0), "3 0", 9, 123);
        round(livingIn(0, 6, 6), "3 0", 9, 123);
        round(livingIn(2, 5, 2, 5), "2 0", 3, 1324);
        round(livingIn(5, 2, 5, 2), "2 0", 3, 2413);
        round(livingIn(4, 3, 2, 1, 0), "5 0", 5, 12345);
        round(livingIn(0, 1, 2, 3, 4), "5 0", 5, 54321);
        round(livingIn(0, 3, 6, 9, 0), "0 0", 9, 15234);
    }

    private static void noLives() {
        // 0: no LIVES.
        for (int home : new int[] {0, 11}) {
            for (int goal = 0; goal <= 1; goal++) {
                for (int what = 0; what <= 1; what++) {
                    Scene.NEW.unchanged(22, "round " + home + " " + goal + " " + what, 0);
                }
            }
        }
        // As many digits as LIVES, 1 more than each, the first the highest.
        round(livingIn(0), "0 0", 0, 1);
        round(livingIn(1, 0), "0 0", 1, 21);
        round(livingIn(2, 1, 0), "0 0", 2, 321);
        round(livingIn(3, 2, 1, 0), "0 0", 3, 4321);
    }

    private static void whatIsTakenTimesTheWay() {
        // TAKEN of this YEAR's windfall (SIZE by LUCK) of each times the way till there, together.
        Scene s = new Scene("life 0 0 6", "put 0 1 0", "put 0 2 100", "law odds 0;sizes year+luck;seen 0;");
        round(s, "0 1", 0, 1);
        round(s.then("put 0 5 99"), "0 1", 6 * 99, 1);
        round(s.then("99 times live 0", "put 0 5 99"), "0 1", 6 * 198, 1);
        round(s.then("99 times live 0", "put 0 5 99"), "6 1", 0, 1);
        // Nothing is TAKEN: all alike.
        round(livingIn(9, 3, 6).then("put 0 2 0", "put 1 2 0", "put 2 2 0"), "3 1", 0, 123);
        // The greatest: five HEIRS, of whom 2997 is TAKEN, all 6 from there.
        Scene five = new Scene("5 times life 50 0 6", "law odds 0;sizes 999;seen 0;");
        for (int l = 0; l < 5; l++) {
            five = five.then("put " + l + " 1 0", "put " + l + " 2 100");
        }
        round(five, "0 1", 5 * 6 * 2997, 12345);
        // The way till there is all of the way, not the last step.
        Scene two = new Scene("life 0 0 1", "life 0 0 2", "law odds 0;sizes 110;seen 0;");
        round(two, "0 1", 50 + 100, 12);
        round(two.then("put 0 2 0"), "0 1", 100, 12);
        round(two.then("put 1 2 0"), "0 1", 50, 12);
    }

    private static void offices() {
        // The HOUSE from which the shortest ROUND is shortest, of like ones the first (what 0), that way (1). BAD.
        Scene.TOWN.ends(23, "office #", 0, 4, 1, 7, -2);
        Scene.NEW.ends(23, "office #", 0, 0, 1, 0, -2);
        Scene.TOWN.unchanged(23, "office 0", 4);
        Scene.TOWN.unchanged(23, "office 1", 7);
        Scene.NEW.unchanged(23, "office 0", 0);
        for (int house = 0; house < 12; house++) {
            livingIn(house).answers(23, "office 0", house);
            livingIn(house).answers(23, "office 1", 0);
            livingIn(house, (house + 1) % 12).answers(23, "office 0", house == 11 ? 0 : house);
            livingIn(house, (house + 1) % 12).answers(23, "office 1", 1);
        }
        livingIn(6, 0).answers(23, "office 0", 0);
        livingIn(6, 0).answers(23, "office 1", 6);
        livingIn(11, 11, 11, 11, 11).answers(23, "office 0", 11);
    }
}
