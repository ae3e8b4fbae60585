/** The edges of promises 24 to 27, a sentence of the document each: who is ruined with whom. */
final class RuinEdges {
    private RuinEdges() {
    }

    static void run() {
        ruins();
        belowPoor();
        lessTheExcess();
        aheadOfTheStep();
        worsts();
        chains();
        ringsOfLives();
    }

    private static void ruin(Scene s, int first, int last, int steps) {
        s.answers(24, "ruin " + first + " 0", last);
        s.answers(24, "ruin " + first + " 1", steps);
    }

    private static void ruins() {
        // First (bits of LIVES); what 0, 1. BAD.
        Scene.NEW.ends(24, "ruin # 0", 0, 0, 0, 0, -2);
        Scene.NEW.ends(24, "ruin # 1", 0, 0, 0, 0, -2);
        Scene.TOWN.ends(24, "ruin # 0", 0, 0, 7, 7, -2);
        Scene.TOWN.ends(24, "ruin # 1", 0, 0, 7, 0, -2);
        Scene.TOWN.ends(24, "ruin 4 #", 0, 4, 1, 0, -2);
        Scene.FULL.ends(24, "ruin # 0", 0, 15, 31, 31, -2);
        Scene.FULL.ends(24, "ruin # 1", 0, 1, 31, 0, -2);
        for (int lives = 1; lives <= 5; lives++) {
            Scene s = new Scene(lives + " times life 0 60 0");
            int all = (1 << lives) - 1;
            s.ends(24, "ruin # 0", 0, 0, all, all, -2);
            ruin(s, all, all, 0);
        }
        Scene.TOWN.unchanged(24, "ruin 5 0", 5);
    }

    private static void belowPoor() {
        // Is below POOR: just POOR is not.
        int[][] so = {{50, 50, 0}, {49, 50, 1}, {0, 0, 0}, {0, 1, 1}, {99999, 99999, 0}, {99998, 99999, 1}, {1, 0, 0}};
        for (int[] s : so) {
            ruin(new Scene("life 0 " + s[0] + " 0", "set 1 " + s[1]), 0, s[2], s[2]);
        }
        // Several in one step.
        ruin(new Scene("life 0 49 0", "life 0 50 0", "life 0 0 0"), 0, 5, 1);
        ruin(new Scene("life 0 49 0", "life 0 50 0", "life 0 0 0"), 1, 5, 1);
        ruin(new Scene("life 0 49 0", "life 0 50 0", "life 0 0 0"), 5, 5, 0);
    }

    private static void lessTheExcess() {
        // Less EXCESS of the one whom it INSURES, not its own, if that one was ruined.
        Scene s = new Scene("life 0 100 0", "life 0 100 0", "put 0 4 1");
        ruin(s.then("put 1 1 50"), 2, 2, 0);
        ruin(s.then("put 1 1 51"), 2, 3, 1);
        ruin(s.then("put 1 1 51"), 0, 0, 0);
        ruin(s.then("put 1 1 51"), 1, 1, 0);
        ruin(s.then("put 0 1 999"), 2, 2, 0);
        ruin(s.then("put 1 1 999", "put 0 0 1049"), 2, 2, 0);
        ruin(s.then("put 1 1 999", "put 0 0 1048"), 2, 3, 1);
        // Below 0, too, by POOR 0.
        ruin(s.then("set 1 0", "put 1 1 100"), 2, 2, 0);
        ruin(s.then("set 1 0", "put 1 1 101"), 2, 3, 1);
        ruin(s.then("set 1 0", "put 0 0 0", "put 1 1 0"), 2, 2, 0);
        ruin(s.then("set 1 0", "put 0 0 0", "put 1 1 1"), 2, 3, 1);
        // Whom one insured ahead, but doesn't now.
        ruin(s.then("put 1 1 51", "put 0 4 -1"), 2, 2, 0);
    }

    private static void aheadOfTheStep() {
        // If that one was ruined ahead of the step: one by one, whatever their numbers are; till none comes to it.
        Scene row = new Scene("5 times life 0 100 0");
        Scene up = row;
        Scene down = row;
        for (int l = 0; l < 5; l++) {
            up = up.then("put " + l + " 1 51");
            down = down.then("put " + l + " 1 51");
        }
        for (int l = 0; l < 4; l++) {
            up = up.then("put " + l + " 4 " + (l + 1));
            down = down.then("put " + (l + 1) + " 4 " + l);
        }
        for (int l = 0; l < 5; l++) {
            ruin(up, 1 << l, (2 << l) - 1, l);
            ruin(down, 1 << l, 31 & -(1 << l), 4 - l);
        }
        ruin(up.then("put 4 0 49"), 0, 31, 5);
        ruin(down.then("put 0 0 49"), 0, 31, 5);
        ruin(up.then("put 4 4 0"), 1, 31, 4);
        ruin(up.then("put 4 4 0"), 0, 0, 0);
        ruin(up.then("put 4 4 0"), 5, 31, 2);
        ruin(up, 31, 31, 0);
        ruin(up, 0, 0, 0);
    }

    private static void worsts() {
        // Of like ones the first (what 0), how many (1); -1: there are none. BAD.
        Scene.NEW.ends(25, "worst #", 0, -1, 1, -1, -2);
        Scene.TOWN.ends(25, "worst #", 0, 0, 1, 1, -2);
        Scene.FULL.ends(25, "worst #", 0, 4, 1, 5, -2);
        Scene.NEW.unchanged(25, "worst 0", -1);
        Scene.NEW.unchanged(25, "worst 1", -1);
        Scene.TOWN.unchanged(25, "worst 0", 0);
        Scene.TOWN.unchanged(25, "worst 1", 1);
        Scene poor = new Scene("5 times life 0 0 0");
        poor.answers(25, "worst 0", 0);
        poor.answers(25, "worst 1", 5);
        Scene last = new Scene("5 times life 0 100 0", "put 4 1 51", "put 3 4 4");
        last.answers(25, "worst 0", 4);
        last.answers(25, "worst 1", 2);
        last.then("put 1 1 51", "put 0 4 1").answers(25, "worst 0", 1);
        last.then("put 1 1 51", "put 0 4 1").answers(25, "worst 1", 2);
    }

    private static void chains() {
        // Till there is none, or one comes to one that was there (oneself, too). -5: no such LIFE.
        Scene.TOWN.ends(26, "chain #", 0, 2, 2, 0, -5);
        Scene.NEW.beyond(26, "chain #", 0, -1, -5);
        Scene.FULL.ends(26, "chain #", 0, 0, 4, 0, -5);
        Scene.TOWN.unchanged(26, "chain 1", 1);
        Scene five = new Scene("5 times life 0 0 0", "put 0 4 1", "put 1 4 2", "put 2 4 3", "put 3 4 4");
        int[][] backs = {{-1, 4, 3, 2, 1, 0}, {0, 4, 4, 4, 4, 4}, {1, 4, 3, 3, 3, 3}, {2, 4, 3, 2, 2, 2}, {3, 4, 3, 2, 1, 1}};
        for (int[] back : backs) {
            for (int l = 0; l < 5; l++) {
                five.then("put 4 4 " + back[0]).answers(26, "chain " + l, back[l + 1]);
            }
        }
        Scene two = new Scene("life 0 0 0", "life 0 0 0", "put 0 4 1", "put 1 4 0");
        two.answers(26, "chain 0", 1);
        two.answers(26, "chain 1", 1);
        new Scene("life 0 0 0").answers(26, "chain 0", 0);
    }

    private static void ringsOfLives() {
        // From each of whom one so comes to itself.
        Scene.NEW.unchanged(27, "rings", 0);
        Scene.TOWN.unchanged(27, "rings", 0);
        Scene.FULL.unchanged(27, "rings", 0);
        Scene five = new Scene("5 times life 0 0 0", "put 0 4 1", "put 1 4 2", "put 2 4 3", "put 3 4 4");
        int[] rings = {31, 30, 28, 24};
        for (int back = 0; back < 4; back++) {
            five.then("put 4 4 " + back).unchanged(27, "rings", rings[back]);
        }
        five.answers(27, "rings", 0);
        new Scene("life 0 0 0").answers(27, "rings", 0);
        Scene pairs = new Scene("5 times life 0 0 0", "put 0 4 3", "put 3 4 0", "put 1 4 2", "put 2 4 1", "put 4 4 0");
        pairs.answers(27, "rings", 15);
    }
}
