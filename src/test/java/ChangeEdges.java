/** What a call changes is just what the document tells of it; where a refused one changes something, it is told, too. */
final class ChangeEdges {
    private ChangeEdges() {
    }

    static void run() {
        theLaw();
        lives();
        years();
        imageAndBack();
        sheets();
        refusedButChanging();
    }

    private static void theLaw() {
        Scene.TOWN.changes(3, "set 0 7", 1000, "count 3 = 7");
        Scene.TOWN.changes(3, "set 1 7", 50, "count 4 = 7");
        // One byte more: seen 90.
        Scene.TOWN.changes(4, "feed 1 48 1 1 1 1", 22, "count 7 = 22", "by the image count 7 = 22", "the tape's text, part 2 = 90");
        Scene.TOWN.then("feed 1 59 0 0 0 0").changes(5, "text", 2, "count 5 = 3", "count 7 = 0", "by the image count 5 = 3",
            "by the image count 7 = 0", "text 2, part 0 = 7", "text 2, part 1 = 8", "text 2, part 2 = 9", "text = -100");
        Scene.TOWN.changes(6, "force 0", 1, "count 6 = 0");
    }

    private static void lives() {
        Scene.TOWN.changes(8, "life 12 3 4", 3, "count 0 = 4", "told 3 0 = 3", "told 3 1 = 10", "told 3 2 = 50", "told 3 3 = 4", "told 3 4 = -1",
            "told 3 5 = 0", "told 3 6 = 1", "told 3 7 = 2");
        int[] was = {60, 20, 50, 4, 2, 0};
        for (int what = 0; what < was.length; what++) {
            int v = what == 4 ? 0 : 9;
            Scene.TOWN.changes(9, "put 1 " + what + " " + v, was[what], "told 1 " + what + " = " + v);
        }
        Scene.TOWN.changes(9, "put 1 4 -1", 2, "told 1 4 = -1");
    }

    private static void years() {
        Scene.TOWN.changes(28, "live 99999", 1, "count 1 = 2", "count 2 = 82", "told 0 0 = 303", "told 0 5 = 2");
        Scene.TOWN.changes(28, "live 0", 0, "count 1 = 2");
        Scene.TOWN.changes(37, "film 0 1 2 2", 2, "size of 0 = 2", "number 0 of 0 = 0", "number 1 of 0 = 45");
        Scene.TOWN.changes(37, "film 1 1 1 2", 2, "sort of 1 = 2", "number 0 of 1 = 45", "number 1 of 1 = 0");
        Scene.TOWN.changes(37, "film 2 0 3 2", 2, "sort of 2 = 2", "size of 2 = 2", "number 0 of 2 = 95", "number 1 of 2 = 100");
        Scene.TOWN.changes(37, "film 0 0 0 0", 0, "size of 0 = 0");
    }

    private static void imageAndBack() {
        Scene.TOWN.changes(38, "image", 3, "by the image count 1 = 1", "by the image count 2 = 40", "by the image told 0 0 = 250",
            "by the image told 0 5 = 1", "by the image told 1 1 = 20");
        Scene.TOWN.changes(39, "back", 3, "count 1 = 0", "count 2 = 0", "told 0 0 = 200", "told 0 5 = 0", "told 1 1 = 10");
        Scene.TOWN.then("life 12 3 4", "set 0 5", "set 1 6", "force 0", "put 0 4 3").changes(39, "back", 3, "count 0 = 3", "count 1 = 0",
            "count 2 = 0", "count 3 = 1000", "count 4 = 50", "count 6 = 1", "told 0 0 = 200", "told 0 4 = 1", "told 0 5 = 0", "told 1 1 = 10",
            "told 3 0 = -5", "told 3 1 = -5", "told 3 2 = -5", "told 3 3 = -5", "told 3 4 = -5", "told 3 5 = -5", "told 3 6 = -5", "told 3 7 = -5");
    }

    private static void sheets() {
        Scene.TOWN.changes(40, "sheet 0 1 2", 1, "sort of 0 = 1", "size of 0 = 2", "number 0 of 0 = 0");
        Scene.TOWN.changes(40, "sheet 2 0 2", 1, "sort of 2 = 0", "size of 2 = 2", "number 0 of 2 = 0", "number 1 of 2 = 0");
        Scene.TOWN.changes(40, "sheet 0 -1 5", 1, "sort of 0 = -1", "size of 0 = 0");
        Scene.TOWN.changes(41, "cell 0 1 77", 1, "number 1 of 0 = 77");
        Scene.TOWN.changes(41, "cell 1 1 300", 1, "number 1 of 1 = 44");
        Scene.TOWN.changes(42, "copy 0 0 0 1 2", 2, "number 1 of 0 = 95", "number 2 of 0 = 0");
        Scene.TOWN.then("row 2 0 1 2 3").changes(42, "copy 1 0 2 1 2", 2, "number 1 of 2 = 9", "number 2 of 2 = 8");
        String[] came = {"count 0 = 4", "told 3 0 = 3", "told 3 1 = 10", "told 3 2 = 50", "told 3 3 = 4", "told 3 4 = -1", "told 3 5 = 0",
            "told 3 6 = 1", "told 3 7 = 2"};
        Scene.TOWN.then("row 2 2 12 3 4").changes(43, "livesBy 2 2 0 1", 1, came);
        Scene.TOWN.then("row 2 2 60 0 0 12 3 4 0 0 12").changes(43, "livesBy 2 2 0 3", 1, came);
    }

    private static void refusedButChanging() {
        // By a FAULT THE TAPE is empty then.
        Scene.TOWN.changes(5, "text", -121, "count 7 = 0", "by the image count 7 = 0", "text = -100");
        Scene.TOWN.then("type ;abc").changes(5, "text", -122, "count 7 = 0", "by the image count 7 = 0", "text = -100");
        // By a place outside what stood ahead came.
        String[] came = {"count 0 = 4", "told 3 0 = 3", "told 3 1 = 10", "told 3 2 = 50", "told 3 3 = 4", "told 3 4 = -1", "told 3 5 = 0",
            "told 3 6 = 1", "told 3 7 = 2"};
        Scene.TOWN.then("row 2 2 12 3 4").changes(43, "livesBy 2 2 0 2", -12, came);
        Scene.TOWN.then("row 2 1 7 12 3 4 1 1").changes(43, "livesBy 2 1 1 5", -12, came);
        Scene.TOWN.then("row 2 2 12 3 4 60 0 0 1").changes(43, "livesBy 2 2 0 3", -12, came);
    }
}
