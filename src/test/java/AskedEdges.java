import java.util.ArrayList;
import java.util.List;

/** What is asked changes nothing: whatever was asked ahead, of much or of little, the answer is the same. */
final class AskedEdges {
    private static final String[] ASKED = {
        "count 0", "asks 0 0 0 0", "asks 1 0 9999 999", "told 0 0", "windfall 0 1", "windfall 0 3", "claim 0 99999", "claim 0 11",
        "mean 0 6 0", "mean 0 1 1", "mean 0 0 0", "keeps 0 6 0", "keeps 0 0 1", "likely 0 6 3 0", "likely 0 1 1 1", "likely 0 0 0 0",
        "fair 0 6", "fair 0 1", "excess 0 6 0", "excess 0 1 1", "who 6 0", "who 1 1", "hide 0 99999 0", "hide 0 12 1", "none 0 91", "none 0 5",
        "unseen 0 99999 9 1", "unseen 0 5 1 0", "round 0 0 0", "round 11 1 0", "round 5 1 1", "office 0", "office 1", "ruin 1 0", "ruin 0 1",
        "ruin 2 1", "worst 0", "worst 1", "chain 0", "rings", "run 5 40 0", "run 5 1 0", "run 5 40 1", "run 5 1 1", "run 5 40 2", "run 5 1 2",
        "run 5 40 10", "run 5 0 10", "odds 5 4050 0", "odds 5 101 0", "judge 0 0", "judge 1 0", "parts 0 0", "parts 1 0", "fits 0 0 0",
        "fits 0 0 11", "fits 1 0 20", "fits 1 0 21", "whose 0 0", "whose 0 1", "whose 1 0", "whose 1 1", "rule 0 0 0", "rule 0 0 1", "rule 1 0 0",
        "rule 1 0 1", "law 0 6", "law 0 1", "taken 0 0", "taken 5 6",
        // Those that are refused, too.
        "mean 9 0 0", "who 9 0", "run 5 41 0", "odds 5 0 0", "force 9", "put 0 9 0", "set 9 0", "life 99 0 0", "feed 9 0 0 0 0 0", "live -1",
        "cell 3 99 0", "copy 0 9 0 9 9", "sheet 0 9 9", "film 0 0 9 0", "livesBy 0 9 0 0"};

    private AskedEdges() {
    }

    static void run() {
        pairs(Scene.TOWN.then("set 0 300", "put 1 0 55", "row 1 0 0 0"));
        pairs(Scene.FULL.then("row 0 2 50 51 0", "row 1 1 0", "put 0 4 1", "put 1 4 0", "set 0 70", "put 4 0 99999"));
        pairs(new Scene("life 50 0 0", "row 0 2 0 0", "row 1 0 0 5"));
        nobodyIsLeft();
        the512thCall();
    }

    private static void the512thCall() {
        // An object is used for at most 512 calls: the last of them answers as the first does.
        Scene s = new Scene("life 50 0 0", "law odds 40;sizes 999;seen 0;");
        long run = s.play().answer("run 5 40 10");
        int calls = Play.MOST - 1 - s.play().calls();
        s.then(calls + " times run 5 40 10").answers(29, "run 5 40 10", run);
        s.then(calls + " times image").answers(39, "back", 1);
        s.then(calls + " times put 0 5 7").answers(9, "put 0 5 8", 7);
        Scene.NEW.then((Play.MOST - 1) + " times sheet 0 2 40").answers(41, "cell 0 39 1", 1);
        Scene.NEW.then((Play.MOST - 1) + " times text").answers(5, "text", -100);
    }

    private static void pairs(Scene s) {
        List<Long> alone = new ArrayList<>();
        for (String call : ASKED) {
            alone.add(s.play().answer(call));
        }
        for (String ahead : ASKED) {
            Play p = s.play();
            for (int i = 0; i < ASKED.length; i++) {
                p.answer(ahead);
                Due.is(promiseOf(ASKED[i]), ASKED[i] + " behind " + ahead, p.answer(ASKED[i]), alone.get(i));
            }
        }
    }

    private static int promiseOf(String call) {
        return RandomTest.FACE.indexOf(call.split(" ")[0]) + 2;
    }

    private static void nobodyIsLeft() {
        // Of LIVES that are none nothing is left in what is asked.
        Scene s = new Scene("row 0 2 0", "image", "life 10 0 6", "life 0 999 7", "put 1 4 0");
        String[] asked = {"who 1 0", "who 6 1", "worst 0", "worst 1", "whose 0 0", "whose 0 1", "run 0 40 1", "run 0 40 2"};
        for (String call : asked) {
            s.then(call, "back").answers(promiseOf(call), call, -1);
        }
        String[] nothing = {"round 3 0 0", "round 3 0 1", "round 3 1 1", "office 0", "office 1", "ruin 0 0", "ruin 0 1", "rings", "run 0 40 0",
            "odds 0 4050 0"};
        for (String call : nothing) {
            s.then(call, "back").answers(promiseOf(call), call, 0);
        }
    }
}
