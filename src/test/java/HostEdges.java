/** The edges of promises 40 to 44, a sentence of the document each: sheets, and what lies where. */
final class HostEdges {
    private static final Scene ROWS = new Scene("row 0 2 1 2 3 4 5", "row 1 2 6 7 8", "row 2 1 9 10 11 12", "image",
        "type odds 7;sizes 8;seen 9");

    private HostEdges() {
    }

    static void run() {
        sheets();
        allOfThemAre0();
        cells();
        lowestBits();
        copies();
        ofSeveralTheFirstOneTold();
        placesOfCopies();
        asTheyWere();
        livesBySheets();
        placesOfLives();
        othersAreLeftOut();
        takenFor();
        placesOfHouses();
    }

    private static void sheets() {
        // A row of n (40 at most) of a sort (0 .. 2), or missing (sort -1: n does not matter): 1. BAD: SHEET, sort, n above 40; -14.
        Scene.TOWN.ends(40, "sheet # 2 3", 0, 1, 3, 1, -2);
        Scene.TOWN.ends(40, "sheet 0 # 3", -1, 1, 2, 1, -2);
        for (int sort = 0; sort <= 2; sort++) {
            Scene.TOWN.answers(40, "sheet 0 " + sort + " 0", 1);
            Scene.TOWN.answers(40, "sheet 0 " + sort + " 40", 1);
            for (int n : new int[] {41, 42, 1000, Integer.MAX_VALUE}) {
                Scene.TOWN.unchanged(40, "sheet 0 " + sort + " " + n, -2);
            }
            for (int n : new int[] {-1, -2, -40, Integer.MIN_VALUE}) {
                Scene.TOWN.unchanged(40, "sheet 0 " + sort + " " + n, -14);
            }
            for (int n = 0; n <= 40; n += 8) {
                Scene.NEW.becomes(40, "sheet 3 " + sort + " " + n, 1, "cell 3 " + n + " 1", -12);
                Scene.NEW.becomes(40, "sheet 3 " + sort + " " + n, 1, "cell 3 " + (n - 1) + " 1", n == 0 ? -12 : 1);
                Scene.NEW.becomes(40, "sheet 3 " + sort + " " + n, 1, "livesBy 3 " + sort + " 0 0", 0);
            }
        }
        for (int n : new int[] {0, -1, 41, 40, Integer.MIN_VALUE, Integer.MAX_VALUE}) {
            Scene.TOWN.becomes(40, "sheet 0 -1 " + n, 1, "cell 0 0 0", -11);
            Scene.TOWN.unchanged(40, "sheet 2 -1 " + n, 1);
        }
        // BAD is told ahead of -14.
        Scene.TOWN.unchanged(40, "sheet 4 2 -1", -2);
        Scene.TOWN.unchanged(40, "sheet -1 2 -1", -2);
        Scene.TOWN.unchanged(40, "sheet 0 3 -1", -2);
        Scene.TOWN.unchanged(40, "sheet 0 -2 -1", -2);
        Scene.TOWN.unchanged(40, "sheet 4 -1 0", -2);
        Scene.TOWN.unchanged(40, "sheet 0 -2 3", -2);
    }

    private static void allOfThemAre0() {
        // All 0, also where other numbers were; and missing as it was missing.
        for (int sort = 0; sort <= 2; sort++) {
            Scene s = new Scene("row 0 " + sort + " 7 7 7 7 7 7", "sheet 0 " + sort + " 2", "sheet 0 " + sort + " 6", "livesBy 0 " + sort + " 0 1");
            for (int what : new int[] {0, 3, 6, 7}) {
                s.answers(40, "told 0 " + what, 0);
            }
            s.then("livesBy 0 " + sort + " 3 1").answers(40, "told 1 0", 0);
            new Scene("row 0 " + sort + " 7 7 7", "sheet 0 -1 3", "sheet 0 " + sort + " 3", "livesBy 0 " + sort + " 0 1").answers(40, "told 0 0", 0);
        }
        Scene full = new Scene("sheet 1 2 40", "cell 1 39 5", "sheet 1 2 40", "sheet 0 2 3", "copy 1 39 0 1 1", "livesBy 0 2 0 1");
        full.answers(40, "told 0 0", 0);
    }

    private static void cells() {
        // Number i of a SHEET becomes v: 1. BAD: SHEET; -11; -12.
        Scene.TOWN.ends(41, "cell # 0 5", 0, 1, 3, -11, -2);
        Scene.TOWN.ends(41, "cell 0 # 5", 0, 1, 2, 1, -12);
        Scene.TOWN.ends(41, "cell 1 # 5", 0, 1, 1, 1, -12);
        Scene.TOWN.unchanged(41, "cell 2 0 5", -11);
        Scene.TOWN.unchanged(41, "cell 2 -1 5", -11);
        Scene.TOWN.unchanged(41, "cell 4 -1 5", -2);
        Scene.TOWN.unchanged(41, "cell 0 0 95", 1);
        Scene.NEW.unchanged(41, "cell 0 0 0", -11);
        Scene.NEW.then("sheet 0 2 0").unchanged(41, "cell 0 0 0", -12);
        Scene.NEW.then("sheet 0 2 40").ends(41, "cell 0 # 5", 0, 1, 39, 1, -12);
    }

    private static void lowestBits() {
        // Of bytes, shorts its lowest 8, 16 bits, with their sign; of ints all.
        int[][] so = {{0, 127, 127}, {0, 128, -128}, {0, 255, -1}, {0, 256, 0}, {0, 383, 127}, {0, -128, -128}, {0, -129, 127}, {0, -256, 0},
            {0, Integer.MAX_VALUE, -1}, {0, Integer.MIN_VALUE, 0}, {1, 32767, 32767}, {1, 32768, -32768}, {1, 65535, -1}, {1, 65536, 0},
            {1, 98303, 32767}, {1, -32769, 32767}, {1, 128, 128}, {1, 256, 256}, {2, 32768, 32768}, {2, 65536, 65536}, {2, 99999, 99999},
            {2, 128, 128}, {2, -1, -1}, {2, 256, 256}};
        for (int[] s : so) {
            Scene x = new Scene("row 0 " + s[0] + " 0 " + s[1] + " 0");
            boolean rich = s[2] >= 0;
            x.answers(41, "livesBy 0 " + s[0] + " 0 1", rich ? 1 : 0);
            x.then("livesBy 0 " + s[0] + " 0 1").answers(41, "told 0 0", rich ? s[2] : -5);
        }
    }

    private static void copies() {
        // n numbers of a SHEET, from i on, come to another one's (or its own) place j: n. BAD: SHEETS.
        ROWS.ends(42, "copy # 0 0 0 1", 0, 1, 3, -11, -2);
        ROWS.ends(42, "copy 0 0 # 0 1", 0, 1, 3, -11, -2);
        ROWS.ends(42, "copy 0 # 1 0 1", 0, 1, 4, 1, -12);
        ROWS.ends(42, "copy 0 0 1 # 1", 0, 1, 2, 1, -12);
        ROWS.ends(42, "copy 0 0 1 0 #", 0, 0, 3, 3, -12);
        ROWS.ends(42, "copy 1 0 0 0 #", 0, 0, 3, 3, -12);
        ROWS.ends(42, "copy 0 0 0 0 #", 0, 0, 5, 5, -12);
        ROWS.unchanged(42, "copy 0 0 0 0 5", 5);
        ROWS.unchanged(42, "copy 0 1 1 2 0", 0);
    }

    private static void ofSeveralTheFirstOneTold() {
        // BAD: SHEETS; -11; -13: unlike sorts; -12.
        ROWS.unchanged(42, "copy 4 0 3 0 1", -2);
        ROWS.unchanged(42, "copy 3 0 4 0 1", -2);
        ROWS.unchanged(42, "copy -1 -1 3 -1 -1", -2);
        ROWS.unchanged(42, "copy 3 0 0 0 1", -11);
        ROWS.unchanged(42, "copy 0 0 2 0 1", -13);
        ROWS.unchanged(42, "copy 2 0 0 0 1", -13);
        ROWS.unchanged(42, "copy 2 0 3 0 1", -11);
        ROWS.unchanged(42, "copy 3 0 2 0 1", -11);
        ROWS.unchanged(42, "copy 3 -1 3 -1 -1", -11);
        ROWS.unchanged(42, "copy 0 -1 3 9 9", -11);
        for (int from = 0; from <= 2; from++) {
            for (int to = 0; to <= 2; to++) {
                Scene s = new Scene("row 0 " + from + " 1 2 3", "row 1 " + to + " 4 5 6");
                s.becomes(42, "copy 0 0 1 0 3", from == to ? 3 : -13, "count 0", 0);
                if (from != to) {
                    s.unchanged(42, "copy 0 0 1 0 3", -13);
                    s.unchanged(42, "copy 0 0 1 0 0", -13);
                    s.unchanged(42, "copy 0 -1 1 9 99", -13);
                }
            }
        }
    }

    private static void placesOfCopies() {
        // -12 (n below 0, too; with n 0, too, if i or j is above how many there are).
        int[][] so = {{0, 0, 0, 0}, {5, 0, 0, 0}, {5, 3, 0, 0}, {0, 3, 0, 0}, {6, 0, 0, -12}, {0, 4, 0, -12}, {6, 4, 0, -12}, {-1, 0, 0, -12},
            {0, -1, 0, -12}, {0, 0, -1, -12}, {1, 1, -1, -12}, {5, 0, 1, -12}, {4, 0, 1, 1}, {0, 3, 1, -12}, {0, 2, 1, 1}, {2, 0, 3, 3}, {3, 0, 3, -12},
            {0, 1, 3, -12}, {0, 0, 4, -12}, {2, 1, 2, 2}, {Integer.MAX_VALUE, 0, 1, -12}, {0, Integer.MAX_VALUE, 1, -12},
            {1, 1, Integer.MAX_VALUE, -12}, {Integer.MAX_VALUE, Integer.MAX_VALUE, Integer.MAX_VALUE, -12}, {0, 0, Integer.MIN_VALUE, -12},
            {Integer.MIN_VALUE, 0, 1, -12}, {3, 3, Integer.MAX_VALUE - 2, -12}};
        for (int[] s : so) {
            String call = "copy 0 " + s[0] + " 1 " + s[1] + " " + s[2];
            if (s[3] <= 0) {
                ROWS.unchanged(42, call, s[3]);
            } else {
                ROWS.answers(42, call, s[3]);
            }
        }
        Scene empty = new Scene("sheet 0 2 0", "sheet 1 2 0");
        empty.unchanged(42, "copy 0 0 1 0 0", 0);
        empty.unchanged(42, "copy 0 0 1 0 1", -12);
        empty.unchanged(42, "copy 0 1 1 0 0", -12);
        Scene full = new Scene("sheet 0 0 40", "sheet 1 0 40");
        full.answers(42, "copy 0 0 1 0 40", 40);
        full.answers(42, "copy 0 39 1 39 1", 1);
        full.answers(42, "copy 0 40 1 40 0", 0);
        full.unchanged(42, "copy 0 0 1 0 41", -12);
        full.unchanged(42, "copy 0 40 1 0 1", -12);
    }

    /** Each number of a SHEET of ints stands for a WEALTH. */
    private static void shows(Scene s, int sheet, int... numbers) {
        for (int i = 0; i < numbers.length; i++) {
            s.then("sheet 3 2 3", "copy " + sheet + " " + i + " 3 1 1", "livesBy 3 2 0 1").answers(42, "told 0 0", numbers[i]);
        }
    }

    private static void asTheyWere() {
        // (As they were): whichever way a SHEET's own overlap; and from one to another, which alone changes.
        shows(ROWS.then("copy 0 0 0 1 4"), 0, 1, 1, 2, 3, 4);
        shows(ROWS.then("copy 0 1 0 0 4"), 0, 2, 3, 4, 5, 5);
        shows(ROWS.then("copy 0 0 0 2 3"), 0, 1, 2, 1, 2, 3);
        shows(ROWS.then("copy 0 2 0 0 3"), 0, 3, 4, 5, 4, 5);
        shows(ROWS.then("copy 0 3 1 1 2"), 1, 6, 4, 5);
        shows(ROWS.then("copy 0 3 1 1 2"), 0, 1, 2, 3, 4, 5);
        shows(ROWS.then("copy 1 0 0 2 3"), 0, 1, 2, 6, 7, 8);
        shows(ROWS.then("copy 0 4 0 0 1"), 0, 5, 2, 3, 4, 5);
    }

    private static void livesBySheets() {
        // From a place on, three by three, n of them (0 .. 5). BAD: SHEET, sort, n; -11; -13; -12.
        Scene s = new Scene("row 0 1 59 300 11 0 0 0 10 1 1 20 2 2 30 3 3", "row 1 0 1 2 3", "image",
            "type odds 7;sizes 8;seen 9");
        s.ends(43, "livesBy # 1 0 0", 0, 0, 3, -11, -2);
        s.ends(43, "livesBy 0 # 0 0", 0, -13, 2, -13, -2);
        s.ends(43, "livesBy 0 1 0 #", 0, 0, 5, 5, -2);
        s.unchanged(43, "livesBy 0 1 0 0", 0);
        for (int n = 1; n <= 5; n++) {
            s.becomes(43, "livesBy 0 1 0 " + n, n, "count 0", n);
        }
        // Of several the first one told.
        s.unchanged(43, "livesBy 4 3 -1 6", -2);
        s.unchanged(43, "livesBy 3 3 0 1", -2);
        s.unchanged(43, "livesBy 3 1 0 6", -2);
        s.unchanged(43, "livesBy 3 1 -1 5", -11);
        s.unchanged(43, "livesBy 2 0 99 5", -11);
        s.unchanged(43, "livesBy 0 0 -1 5", -13);
        s.unchanged(43, "livesBy 0 2 -1 0", -13);
        s.unchanged(43, "livesBy 1 1 9 1", -13);
        for (int sort = 0; sort <= 2; sort++) {
            Scene row = new Scene("row 0 " + sort + " 47 99 11");
            int[] is = {99, 10, 50, 11, -1, 0, 4, 7};
            for (int what = 0; what < is.length; what++) {
                row.becomes(43, "livesBy 0 " + sort + " 0 1", 1, "told 0 " + what, is[what]);
            }
        }
    }

    private static void placesOfLives() {
        // -12: what stood ahead came.
        Scene s = new Scene("row 0 2 0 11 0 0 22 0 0", "image", "type odds 7;sizes 8;seen 9");
        s.unchanged(43, "livesBy 0 2 -1 1", -12);
        s.unchanged(43, "livesBy 0 2 5 1", -12);
        s.unchanged(43, "livesBy 0 2 7 1", -12);
        s.unchanged(43, "livesBy 0 2 8 1", -12);
        s.unchanged(43, "livesBy 0 2 " + Integer.MAX_VALUE + " 5", -12);
        s.unchanged(43, "livesBy 0 2 " + Integer.MIN_VALUE + " 5", -12);
        s.becomes(43, "livesBy 0 2 4 1", 1, "count 0", 1);
        s.then("cell 0 4 10", "cell 0 5 5", "cell 0 6 6").becomes(43, "livesBy 0 2 4 1", 1, "told 0 3", 6);
        s.becomes(43, "livesBy 0 2 0 2", 2, "count 0", 2);
        s.becomes(43, "livesBy 0 2 0 3", -12, "count 0", 2);
        s.becomes(43, "livesBy 0 2 0 3", -12, "told 1 0", 22);
        s.becomes(43, "livesBy 0 2 1 2", 2, "count 0", 2);
        // One that is left out ahead of a place outside, nobody comes.
        s.unchanged(43, "livesBy 0 2 2 2", -12);
        s.becomes(43, "livesBy 0 2 3 2", -12, "count 0", 1);
        s.becomes(43, "livesBy 0 2 3 2", -12, "told 0 0", 22);
        s.becomes(43, "livesBy 0 2 3 5", -12, "count 0", 1);
        // None of them has a place outside.
        s.unchanged(43, "livesBy 0 2 7 0", 0);
        s.unchanged(43, "livesBy 0 2 8 0", 0);
        s.unchanged(43, "livesBy 0 2 -1 0", 0);
        new Scene("sheet 0 1 0").unchanged(43, "livesBy 0 1 0 0", 0);
        new Scene("sheet 0 1 0").unchanged(43, "livesBy 0 1 0 1", -12);
        new Scene("sheet 0 0 40").becomes(43, "livesBy 0 0 37 1", 1, "count 0", 1);
        new Scene("sheet 0 0 40").unchanged(43, "livesBy 0 0 38 1", -12);
        new Scene("sheet 0 0 40").becomes(43, "livesBy 0 0 34 3", -12, "count 0", 2);
    }

    private static void othersAreLeftOut() {
        // How many came (others are left out): a wrong KIND, WEALTH, HOUSE, and who has no room.
        String[] wrong = {"60 0 0", "-1 0 0", "0 -1 0", "0 100000 0", "0 0 12", "0 0 -1"};
        for (String w : wrong) {
            new Scene("row 0 2 " + w).unchanged(43, "livesBy 0 2 0 1", 0);
            Scene s = new Scene("row 0 2 1 11 1 " + w + " 2 22 2");
            s.becomes(43, "livesBy 0 2 0 3", 2, "told 1 0", 22);
            s.becomes(43, "livesBy 0 2 0 3", 2, "count 0", 2);
            s.becomes(43, "livesBy 0 2 3 2", 1, "told 0 0", 22);
        }
        for (int had = 0; had <= 5; had++) {
            Scene s = had == 0 ? Scene.NEW : new Scene(had + " times life 0 0 0");
            Scene row = s.then("sheet 0 2 15");
            row.becomes(43, "livesBy 0 2 0 5", 5 - had, "count 0", 5);
        }
        Scene full = Scene.FULL.then("row 0 2 1 1 1 2 2 2");
        full.unchanged(43, "livesBy 0 2 0 2", 0);
        full.unchanged(43, "livesBy 0 2 0 3", -12);
    }

    private static void takenFor() {
        // 0 .. 4 LIVES, 5 .. 16 HOUSES, taken for 0 .. 5 a LIFE of that KIND (also of one that is one), 6 a HOUSE.
        // BAD: kind; -12: i; -11: nothing lies there; -13.
        Scene.FULL.ends(44, "taken # 0", 0, 0, 16, -13, -12);
        Scene.FULL.ends(44, "taken 0 #", 0, 0, 6, -13, -2);
        Scene.FULL.answers(44, "taken 4 0", 4);
        Scene.FULL.answers(44, "taken 5 0", -13);
        Scene.FULL.unchanged(44, "taken 1 1", 1);
        Scene.TOWN.unchanged(44, "taken 2 0", 2);
        Scene.TOWN.unchanged(44, "taken 3 0", -11);
        Scene.TOWN.unchanged(44, "taken 4 0", -11);
        Scene.TOWN.unchanged(44, "taken 3 6", -11);
        Scene.TOWN.unchanged(44, "taken 3 5", -11);
        Scene.NEW.unchanged(44, "taken 0 0", -11);
        Scene.TOWN.unchanged(44, "taken -1 7", -2);
        Scene.TOWN.unchanged(44, "taken 17 -1", -2);
        Scene.TOWN.unchanged(44, "taken 3 7", -2);
        Scene.TOWN.unchanged(44, "taken 17 6", -12);
        Scene.TOWN.unchanged(44, "taken -1 6", -12);
        boolean[][] is = {{true, false, false, false, false, false}, {true, true, false, false, false, false}, {true, false, true, false, false, false},
            {true, true, false, true, false, false}, {true, false, true, false, true, false}, {true, false, false, false, false, true}};
        for (int kind = 0; kind < 6; kind++) {
            for (int more : new int[] {0, 9}) {
                Scene s = new Scene("life 0 0 0", "life " + (10 * kind + more) + " 0 0");
                for (int asked = 0; asked < 6; asked++) {
                    s.answers(44, "taken 1 " + asked, is[kind][asked] ? 1 : -13);
                }
                s.answers(44, "taken 1 6", -13);
            }
        }
    }

    private static void placesOfHouses() {
        // 6 a HOUSE: whether anybody lives there (1, 0).
        for (int home = 0; home < 12; home++) {
            Scene s = new Scene("life 0 0 5", "life 0 0 " + home);
            for (int house = 0; house < 12; house++) {
                s.answers(44, "taken " + (5 + house) + " 6", house == home || house == 5 ? 1 : 0);
                s.answers(44, "taken " + (5 + house) + " 5", -13);
            }
            Scene.NEW.unchanged(44, "taken " + (5 + home) + " 6", 0);
            Scene.NEW.unchanged(44, "taken " + (5 + home) + " 0", -13);
        }
        new Scene("life 0 0 5", "put 0 3 6").answers(44, "taken 10 6", 0);
        new Scene("life 0 0 5", "put 0 3 6").answers(44, "taken 11 6", 1);
        new Scene("image", "life 0 0 5", "back").answers(44, "taken 10 6", 0);
    }
}
