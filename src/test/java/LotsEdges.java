/**
 * The edges of promises 28 to 30, a sentence of the document each: years by lots. The first LOT modulo 100 is 71 by
 * seed 0, 0 by seed 99, 99 by seed 68, 6 by seed 99999.
 */
final class LotsEdges {
    private static final long NO = Calls.NO;
    private static final Scene HALF = new Scene("life 0 0 0", "law odds 50;sizes 100;seen 0;");
    /** A windfall of 100 in each YEAR, nothing of it TAKEN. */
    private static final Scene RICHER = new Scene("life 0 0 0", "put 0 2 0", "law odds 100;sizes 100;seen 0;");

    private LotsEdges() {
    }

    static void run() {
        seeds();
        lotsAreBelowOdds();
        yearIs99AtMost();
        fundIs99999AtMost();
        wealthIs99999AtMost();
        luckIs99AtMost();
        aYearOfNobody();
        runsInThought();
        yearsAndSeedsOfRuns();
        goalOrMore();
        theFirstOfSeveral();
        boundsInThought();
        odds();
        oddsOfSeeds();
    }

    private static void seeds() {
        // SEED (0 .. 99999). BAD.
        Scene.TOWN.ends(28, "live #", 0, 0, 99999, 1, -2);
        Scene.FULL.beyond(28, "live #", 0, 99999, -2);
        Scene.TOWN.becomes(28, "live 99999", 1, "count 1", 2);
        Scene.TOWN.becomes(28, "live 99999", 1, "count 2", 82);
        Scene.TOWN.becomes(28, "live 99999", 1, "told 0 0", 303);
        Scene.TOWN.becomes(28, "live 99999", 1, "told 0 5", 2);
        Scene.TOWN.becomes(28, "live 0", 0, "count 1", 2);
        Scene.TOWN.becomes(28, "live 0", 0, "count 2", 40);
        Scene.TOWN.becomes(28, "live 100000", -2, "count 1", 1);
    }

    private static void lotsAreBelowOdds() {
        // A windfall, if LOT modulo 100 is below ODDS.
        int[][] so = {{0, 71, 0}, {0, 72, 1}, {99, 0, 0}, {99, 1, 1}, {68, 99, 0}, {68, 100, 1}, {99999, 6, 0}, {99999, 7, 1}, {5, 26, 0}, {5, 27, 1}};
        for (int[] s : so) {
            Scene x = new Scene("life 0 0 0", "law odds " + s[1] + ";sizes 12;seen 0;");
            x.answers(28, "live " + s[0], s[2]);
            x.becomes(28, "live " + s[0], s[2], "told 0 5", s[2]);
            x.answers(29, "run " + s[0] + " 1 0", s[2]);
        }
        // Each LIFE has a LOT, by numbers, whatever its ODDS are: 71 94 86 37 41 by seed 0.
        int[] lots = {71, 94, 86, 37, 41};
        for (int l = 0; l < 5; l++) {
            for (int above = 0; above <= 1; above++) {
                Scene x = new Scene("5 times life 0 0 0", "put " + l + " 1 7",
                    "law odds " + (lots[l] + above) + "*(excess=7);sizes 1;seen 0;");
                x.answers(28, "live 0", above << l);
            }
        }
        // By this YEAR's ODDS, and by LUCK.
        Scene year = new Scene("life 0 0 0", "law odds 100*(year=1);sizes 1;seen 0;");
        year.answers(28, "live 0", 0);
        year.then("live 0").answers(28, "live 0", 1);
        year.then("live 0", "live 0").answers(28, "live 0", 0);
        Scene luck = new Scene("life 0 0 0", "law odds 100*(luck<2);sizes 1;seen 0;");
        luck.then("live 0").answers(28, "live 0", 1);
        luck.then("live 0", "live 0").answers(28, "live 0", 0);
    }

    private static void yearIs99AtMost() {
        // YEAR 0 .. 99. BAD; FULL: YEAR is 99.
        Scene at98 = HALF.then("98 times live 0");
        at98.becomes(28, "live 0", 0, "count 1", 99);
        Scene at99 = at98.then("live 1").furnished();
        at99.unchanged(28, "live 1", -4);
        at99.unchanged(28, "live 99999", -4);
        at99.beyond(28, "live #", 0, 99999, -2);
        at99.becomes(28, "live 1", -4, "count 1", 99);
        // An image of a YEAR ahead makes room.
        HALF.then("98 times live 0", "image", "live 0", "back").becomes(28, "live 1", 1, "count 1", 99);
    }

    private static void fundIs99999AtMost() {
        // FUND is all that is TAKEN more (99999 at most): 4995 of five LIVES in a YEAR.
        Scene five = new Scene("5 times life 0 0 0", "law odds 100;sizes 999;seen 0;");
        for (int l = 0; l < 5; l++) {
            five = five.then("put " + l + " 1 0", "put " + l + " 2 100");
        }
        five.becomes(28, "live 0", 31, "count 2", 4995);
        Scene at99900 = five.then("20 times live 0", "put 0 2 0", "put 1 2 0", "put 2 2 0", "put 3 2 0");
        at99900.answers(28, "count 2", 99900);
        int[][] more = {{0, 99900}, {98, 99998}, {99, 99999}, {100, 99999}, {101, 99999}, {999, 99999}};
        for (int[] m : more) {
            at99900.then("law odds 100;sizes " + m[0] + ";seen 0;").becomes(28, "live 0", 31, "count 2", m[1]);
        }
        Scene full = five.then("21 times live 0");
        full.answers(28, "count 2", 99999);
        full.becomes(28, "live 0", 31, "count 2", 99999);
        full.then("law odds 0;sizes 9;seen 0;").becomes(28, "live 0", 0, "count 2", 99999);
    }

    private static void wealthIs99999AtMost() {
        // WEALTH is SIZE less TAKEN more (99999 at most).
        int[][] more = {{0, 100}, {99898, 99998}, {99899, 99999}, {99900, 99999}, {99901, 99999}, {99999, 99999}};
        for (int[] m : more) {
            RICHER.then("put 0 0 " + m[0]).becomes(28, "live 0", 1, "told 0 0", m[1]);
            RICHER.then("put 0 0 " + m[0]).answers(29, "run 0 1 10", m[1]);
        }
        RICHER.then("put 0 2 100").becomes(28, "live 0", 1, "told 0 0", 10);
        RICHER.then("put 0 2 100", "put 0 1 0").becomes(28, "live 0", 1, "told 0 0", 0);
        // What is TAKEN goes to the FUND, whatever has room in WEALTH.
        RICHER.then("put 0 2 100", "put 0 0 99999").becomes(28, "live 0", 1, "count 2", 90);
    }

    private static void luckIs99AtMost() {
        // LUCK 1 more (99 at most); none more without a windfall; by one of SIZE 0, too.
        int[][] more = {{0, 1}, {97, 98}, {98, 99}, {99, 99}};
        for (int[] m : more) {
            RICHER.then("put 0 5 " + m[0]).becomes(28, "live 0", 1, "told 0 5", m[1]);
            RICHER.then("put 0 5 " + m[0], "law odds 0;sizes 1;seen 0;").becomes(28, "live 0", 0, "told 0 5", m[0]);
            RICHER.then("put 0 5 " + m[0], "law odds 100;sizes 0;seen 0;").becomes(28, "live 0", 1, "told 0 5", m[1]);
        }
        RICHER.then("law odds 100;sizes 0;seen 0;").becomes(28, "live 0", 1, "told 0 0", 0);
    }

    private static void aYearOfNobody() {
        Scene.NEW.becomes(28, "live 0", 0, "count 1", 1);
        Scene.NEW.becomes(28, "live 99999", 0, "count 2", 0);
        Scene.NEW.unchanged(29, "run 0 40 0", 0);
        Scene.NEW.unchanged(29, "run 0 40 1", -1);
        Scene.NEW.unchanged(29, "run 0 40 2", -1);
        Scene.NEW.unchanged(29, "run 0 40 10", -7);
        Scene.NEW.unchanged(30, "odds 0 4050 0", 0);
        Scene.NEW.unchanged(30, "odds 0 4050 1", 1);
        Scene.NEW.then("set 0 0").answers(30, "odds 0 4050 0", 0);
    }

    private static void runsInThought() {
        // n (0 .. 40) YEARS, in thought. BAD: SEED, n; -7: what, no such LIFE.
        Scene.TOWN.ends(29, "run # 2 0", 0, 54, 99999, 139, -2);
        Scene.TOWN.ends(29, "run 5 # 0", 0, 0, 40, 1808, -2);
        Scene.TOWN.ends(29, "run 5 # 11", 0, 60, 40, 1188, -2);
        Scene.TOWN.beyond(29, "run 5 2 #", 0, 12, -7);
        for (int what = 3; what <= 9; what++) {
            Scene.TOWN.unchanged(29, "run 5 2 " + what, -7);
        }
        Scene.FULL.beyond(29, "run 5 2 #", 0, 14, -7);
        Scene.FULL.answers(29, "run 5 0 14", 50);
        Scene.TOWN.unchanged(29, "run -1 2 3", -2);
        Scene.TOWN.unchanged(29, "run 100000 2 13", -2);
        Scene.TOWN.unchanged(29, "run 5 41 -1", -2);
        Scene.TOWN.unchanged(29, "run 5 -1 13", -2);
    }

    private static void yearsAndSeedsOfRuns() {
        int[][] so = {{5, 2, 0, 54}, {5, 2, 1, -1}, {5, 2, 2, -1}, {5, 2, 10, 303}, {5, 2, 11, 93}, {5, 2, 12, 90}, {5, 0, 10, 250}, {5, 0, 12, 90},
            {5, 40, 1, 1}, {5, 40, 2, 30}, {5, 31, 2, 30}, {5, 30, 2, -1}, {5, 40, 10, 1304}, {5, 40, 12, 429}, {99999, 2, 10, 358},
            {99999, 2, 12, 140}, {99999, 40, 0, 2062}, {99999, 40, 1, 0}, {99999, 40, 2, 30}, {99999, 40, 11, 894}};
        for (int[] s : so) {
            Scene.TOWN.unchanged(29, "run " + s[0] + " " + s[1] + " " + s[2], s[3]);
        }
        // As it is truly, YEAR by YEAR with a SEED of its own each, so in thought of one YEAR.
        Scene.TOWN.then("live 99999").answers(29, "run 5 0 10", 303);
    }

    private static void goalOrMore() {
        // The first whose WEALTH is GOAL or more behind a YEAR; how many YEARS there were ahead of that one; -1: nobody.
        int[][] so = {{0, 0}, {1, 0}, {100, 0}, {101, 1}, {200, 1}, {201, 2}, {3999, 39}, {4000, 39}};
        for (int[] s : so) {
            Scene x = RICHER.then("set 0 " + s[0]);
            x.answers(29, "run 0 40 1", 0);
            x.answers(29, "run 0 40 2", s[1]);
            x.answers(29, "run 0 " + (s[1] + 1) + " 2", s[1]);
            x.answers(29, "run 0 " + s[1] + " 1", -1);
            x.answers(29, "run 0 " + s[1] + " 2", -1);
            x.answers(30, "odds 0 " + (100 * s[1] + 101) + " 0", 1);
            x.answers(30, "odds 0 " + (100 * s[1] + 1) + " 0", 0);
        }
        RICHER.then("set 0 4001").answers(29, "run 0 40 1", -1);
        RICHER.then("set 0 4001").answers(29, "run 0 40 2", -1);
        // Rich already: behind the first YEAR, but not behind none.
        RICHER.then("put 0 0 99999", "set 0 99999").answers(29, "run 0 1 2", 0);
        RICHER.then("put 0 0 99999", "set 0 99999").answers(29, "run 0 0 1", -1);
        RICHER.then("put 0 0 99998", "set 0 99999", "law odds 0;sizes 0;seen 0;").answers(29, "run 0 40 1", -1);
    }

    private static void theFirstOfSeveral() {
        // Of these the first by numbers; and it is not told again behind a later YEAR.
        Scene three = new Scene("life 0 0 0", "life 0 0 0", "life 0 0 0", "put 0 2 0", "put 1 2 0", "put 2 2 0", "set 0 300",
            "law odds 100;sizes 100;seen 0;");
        three.answers(29, "run 0 40 1", 0);
        three.answers(29, "run 0 40 2", 2);
        three.then("put 2 0 100", "put 1 0 100").answers(29, "run 0 40 1", 1);
        three.then("put 2 0 100", "put 1 0 100").answers(29, "run 0 40 2", 1);
        three.then("put 2 0 101", "put 1 0 200", "put 0 0 99").answers(29, "run 0 40 1", 1);
        three.then("put 2 0 300").answers(29, "run 0 40 1", 2);
        three.then("put 2 0 300").answers(29, "run 0 40 2", 0);
    }

    private static void boundsInThought() {
        // TAKEN of all has no bound but that; YEARS go on behind 99; LUCK is 99 at most.
        Scene five = new Scene("5 times life 0 0 0", "law odds 100;sizes 999;seen 0;");
        for (int l = 0; l < 5; l++) {
            five = five.then("put " + l + " 1 0", "put " + l + " 2 100");
        }
        five.answers(29, "run 0 40 0", 199800);
        five.then("21 times live 0").answers(29, "run 0 40 0", 199800);
        five.then("99 times live 0").unchanged(29, "run 0 40 0", 199800);
        Scene late = RICHER.then("98 times live 0", "put 0 0 0", "law odds 100*(99<year);sizes year-99;seen 0;");
        late.answers(29, "run 0 2 10", 0);
        late.answers(29, "run 0 3 10", 1);
        late.answers(29, "run 0 40 10", 38 * 39 / 2);
        Scene lucky = RICHER.then("put 0 5 97", "law odds 100;sizes luck;seen 0;");
        lucky.answers(29, "run 0 40 10", 97 + 98 + 38 * 99);
        lucky.then("law odds 100;sizes (luck=99)*7;seen 0;").answers(29, "run 0 3 10", 7);
    }

    private static void odds() {
        // 100 times how many (0 .. 40) YEARS, and how many (1 .. 50) seeds; SEED; part 0 above, 1 below the line. NO: none such.
        Scene.TOWN.ends(30, "odds # 201 1", 0, 1, 99999, 1, NO);
        Scene.TOWN.ends(30, "odds 5 # 1", 1, 1, 4050, 1, NO);
        Scene.TOWN.ends(30, "odds 5 3101 #", 0, 1, 1, 1, NO);
        for (int yearsSeeds : new int[] {-4001, -101, -100, -99, -51, -50, 51, 99, 100, 151, 199, 200, 3951, 3999, 4000, 4051, 4099, 4100, 4101, 4150}) {
            Scene.TOWN.unchanged(30, "odds 5 " + yearsSeeds + " 0", NO);
        }
        Scene.TOWN.answers(30, "odds 5 4050 0", 1);
        Scene.TOWN.answers(30, "odds 5 3050 0", 14);
        Scene.TOWN.answers(30, "odds 5 3050 1", 25);
        Scene.TOWN.answers(30, "odds 99999 3050 0", 3);
        Scene.TOWN.answers(30, "odds 99999 3050 1", 5);
        Scene.TOWN.unchanged(30, "odds 5 50 0", 0);
        Scene.TOWN.unchanged(30, "odds 5 3101 0", 1);
        Scene.TOWN.unchanged(30, "odds 5 3001 0", 0);
    }

    private static void oddsOfSeeds() {
        // In how many of these, SEED and each 1 more (above 99999, too), run(.., 1) isn't -1, in lowest terms.
        Scene s = HALF.then("set 0 1");
        long[][] so = {{0, 101, 0, 1}, {1, 101, 1, 1}, {0, 102, 1, 2}, {0, 106, 1, 2}, {0, 149, 24, 49}, {0, 150, 12, 25}, {99999, 150, 27, 50}};
        for (long[] o : so) {
            s.answers(30, "odds " + o[0] + " " + o[1] + " 0", o[2]);
            s.answers(30, "odds " + o[0] + " " + o[1] + " 1", o[3]);
        }
        // Behind no YEAR nobody is happy; by GOAL 0 everybody behind one.
        HALF.then("set 0 0").answers(30, "odds 0 50 0", 0);
        HALF.then("set 0 0").answers(30, "odds 0 50 1", 1);
        HALF.then("set 0 0").answers(30, "odds 0 150 0", 1);
        HALF.then("set 0 0").answers(30, "odds 0 150 1", 1);
        HALF.then("set 0 0").answers(30, "odds 99999 4050 0", 1);
    }
}
