/** The edges of promises 19 to 21, a sentence of the document each: hidden in parts. */
final class HiddenEdges {
    private static final long NO = Calls.NO;
    /** Above nothing all is TAKEN; SEEN is a part as likely as it is great. */
    private static final Scene MUCH = new Scene("life 0 0 0", "put 0 1 0", "put 0 2 100", "law odds 0;sizes 0;seen much;");

    private HiddenEdges() {
    }

    static void run() {
        hides();
        oneToNineParts();
        ofLikeOnesTheFewest();
        cutAndLeftOver();
        nones();
        unseens();
        unseenByParts();
    }

    private static void hides() {
        // PARTS (1 .. 9) of much (0 .. 99999). -5: no such LIFE; -7: much, what.
        Scene.TOWN.ends(19, "hide 0 # 0", 0, 1, 99999, 9, -7);
        Scene.TOWN.ends(19, "hide 0 # 1", 0, 0, 99999, 1248750, -7);
        Scene.TOWN.ends(19, "hide 0 50 #", 0, 5, 1, 0, -7);
        Scene.TOWN.ends(19, "hide # 50 0", 0, 5, 2, 5, -5);
        Scene.NEW.unchanged(19, "hide 0 0 0", -5);
        Scene.TOWN.unchanged(19, "hide 0 50 0", 5);
        Scene.TOWN.unchanged(19, "hide 3 -1 2", -5);
        Scene.TOWN.unchanged(19, "hide -1 0 0", -5);
        Scene.TOWN.unchanged(19, "hide 0 100000 0", -7);
        MUCH.answers(19, "hide 0 99999 0", 1);
        MUCH.answers(19, "hide 0 99999 1", 9999900);
    }

    private static void oneToNineParts() {
        // By how many nothing of it is SEEN, or TAKEN: 10 each go free.
        for (int parts = 1; parts <= 9; parts++) {
            Scene.NEW.then("life 0 0 0").answers(19, "hide 0 " + 10 * parts + " 0", parts);
            Scene.NEW.then("life 0 0 0").answers(19, "hide 0 " + 10 * parts + " 1", 0);
            Scene free = new Scene("life 0 0 0", "put 0 1 0", "put 0 2 100", "law odds 0;sizes 0;seen 9<much;");
            free.answers(19, "hide 0 " + 9 * parts + " 0", parts);
        }
        // Of 91 one PART of nine is above 10: 1 of it, by the half cut to 0; all of it is 1, SEEN by 30.
        Scene.NEW.then("life 0 0 0").answers(19, "hide 0 91 0", 9);
        Scene.NEW.then("life 0 0 0").answers(19, "hide 0 91 1", 0);
        Scene.NEW.then("life 0 0 0", "put 0 2 100").answers(19, "hide 0 91 0", 9);
        Scene.NEW.then("life 0 0 0", "put 0 2 100").answers(19, "hide 0 91 1", 30);
        Scene.NEW.then("life 0 0 0", "put 0 2 100").answers(19, "hide 0 99 1", 270);
        Scene.NEW.then("life 0 0 0", "put 0 2 100").answers(19, "hide 0 100 1", 300);
    }

    private static void ofLikeOnesTheFewest() {
        MUCH.answers(19, "hide 0 0 0", 1);
        MUCH.answers(19, "hide 0 1 0", 1);
        MUCH.answers(19, "hide 0 2 0", 2);
        MUCH.answers(19, "hide 0 2 1", 2);
        MUCH.answers(19, "hide 0 8 0", 8);
        MUCH.answers(19, "hide 0 9 0", 9);
        MUCH.answers(19, "hide 0 10 0", 9);
        MUCH.answers(19, "hide 0 10 1", 12);
        MUCH.then("put 0 2 0").answers(19, "hide 0 99999 0", 1);
        MUCH.then("law odds 0;sizes 0;seen 0;").answers(19, "hide 0 99999 0", 1);
        MUCH.then("law odds 0;sizes 0;seen 50;").answers(19, "hide 0 99999 0", 1);
        MUCH.then("law odds 0;sizes 0;seen 50;").answers(19, "hide 0 99999 1", 4999950);
    }

    private static void cutAndLeftOver() {
        // By how many it is cut; the first (what is left over) of them 1 greater: by which SEEN is each 1.
        int[][] cuts = {{1, 2, 0}, {2, 2, 1}, {3, 2, 1}, {7, 3, 2}, {8, 3, 2}, {9, 3, 3}, {8, 9, 0}, {9, 9, 1}, {10, 9, 1}, {89, 9, 9}, {90, 9, 10}};
        for (int[] c : cuts) {
            int over = c[0] % c[1];
            Scene less = new Scene("life 0 0 0", "law odds 0;sizes 0;seen 50*(much=" + c[2] + ");");
            less.answers(21, "unseen 0 " + c[0] + " " + c[1] + " 1", 1L << c[1] - over);
            Scene more = new Scene("life 0 0 0", "law odds 0;sizes 0;seen 50*(much=" + (c[2] + 1) + ");");
            more.answers(21, "unseen 0 " + c[0] + " " + c[1] + " 1", 1L << over);
        }
    }

    private static void nones() {
        // The fewest PARTS (1 .. 9) of much none of which is above EXCESS; -1: there are none. -5: no such LIFE; -7: much.
        Scene.TOWN.ends(20, "none 0 #", 0, 1, 99999, -1, -7);
        Scene.TOWN.ends(20, "none # 21", 0, 3, 2, 3, -5);
        Scene.NEW.unchanged(20, "none 0 0", -5);
        Scene.TOWN.unchanged(20, "none 0 50", 5);
        Scene.TOWN.unchanged(20, "none 0 91", -1);
        Scene.TOWN.unchanged(20, "none 3 -1", -5);
        for (int excess : new int[] {1, 10, 999}) {
            Scene s = new Scene("life 0 0 0", "put 0 1 " + excess);
            s.answers(20, "none 0 0", 1);
            for (int parts = 1; parts <= 9; parts++) {
                s.answers(20, "none 0 " + excess * parts, parts);
                s.answers(20, "none 0 " + (excess * parts + 1), parts == 9 ? -1 : parts + 1);
            }
        }
        new Scene("life 0 0 0", "put 0 1 0").answers(20, "none 0 0", 1);
        new Scene("life 0 0 0", "put 0 1 0").answers(20, "none 0 1", -1);
    }

    private static void unseens() {
        // So many (1 .. 9) PARTS of much; part 0 above, 1 below the line. NO: none such.
        Scene.TOWN.ends(21, "unseen 0 # 1 1", 0, 4, 99999, 4, NO);
        Scene.TOWN.ends(21, "unseen 0 50 # 1", 1, 4, 9, 262144, NO);
        Scene.TOWN.ends(21, "unseen 0 50 2 #", 0, 9, 1, 16, NO);
        Scene.TOWN.ends(21, "unseen # 50 1 1", 0, 4, 2, 10, NO);
        Scene.NEW.unchanged(21, "unseen 0 0 1 0", NO);
        Scene.TOWN.unchanged(21, "unseen 0 50 9 0", 19683);
        Scene.TOWN.unchanged(21, "unseen 3 50 1 0", NO);
    }

    private static void unseenByParts() {
        // Never SEEN: surely none is; always SEEN: surely one is; in lowest terms.
        for (int parts = 1; parts <= 9; parts++) {
            Scene never = new Scene("life 0 0 0", "law odds 0;sizes 0;seen 0;");
            never.answers(21, "unseen 0 99999 " + parts + " 0", 1);
            never.answers(21, "unseen 0 99999 " + parts + " 1", 1);
            Scene always = new Scene("life 0 0 0", "law odds 0;sizes 0;seen 100;");
            always.answers(21, "unseen 0 0 " + parts + " 0", 0);
            always.answers(21, "unseen 0 0 " + parts + " 1", 1);
        }
        Scene one = new Scene("life 0 0 0", "law odds 0;sizes 0;seen 1;");
        one.answers(21, "unseen 0 5 9 0", 913517247483640899L);
        one.answers(21, "unseen 0 5 9 1", 1000000000000000000L);
        Scene nearly = new Scene("life 0 0 0", "law odds 0;sizes 0;seen 99;");
        nearly.answers(21, "unseen 0 5 9 0", 1);
        nearly.answers(21, "unseen 0 5 9 1", 1000000000000000000L);
        // A WARD with MORE 0 is always SEEN, with 9 nearly.
        new Scene("life 30 0 0").answers(21, "unseen 0 5 1 0", 0);
        new Scene("life 39 0 0").answers(21, "unseen 0 5 1 0", 9);
        // By this YEAR and LUCK.
        Scene by = new Scene("life 0 0 0", "law odds 0;sizes 0;seen year+luck;", "99 times live 0");
        by.answers(21, "unseen 0 5 1 0", 1);
        by.then("put 0 5 1").answers(21, "unseen 0 5 1 0", 0);
    }
}
