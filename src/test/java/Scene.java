import java.util.ArrayList;
import java.util.List;

/** What was done ahead of a call. Each call that is looked at is made on an object of its own that comes to the scene. */
final class Scene {
    static final Scene NEW = new Scene();
    /** Something of everything, and room for more of everything. */
    static final Scene TOWN = new Scene("life 3 200 0", "life 17 60 4", "life 25 90 9", "put 0 4 1", "put 1 4 2",
        "law odds 40;sizes 90+luck*5;seen 25;", "image", "live 5", "put 1 1 20", "row 0 2 95 0 7", "row 1 0 9 8",
        "type odds 7;sizes 8;seen 9");
    /** Room for nothing more: five LIVES, six TEXTS, 160 bytes. */
    static final Scene FULL = new Scene("life 0 10 0", "life 11 20 3", "life 22 30 6", "life 33 40 9", "life 44 50 11",
        "5 times read odds 10+more;sizes 50+luck;seen 5;", "32 times feed 5 120 120 120 120 120", "image", "row 0 1 5 6");

    private final String[] steps;
    private List<String> look = null;

    Scene(String... steps) {
        this.steps = steps;
    }

    Scene then(String... more) {
        List<String> all = new ArrayList<>(List.of(steps));
        all.addAll(List.of(more));
        return new Scene(all.toArray(new String[0]));
    }

    /** An image, a SHEET and bytes on THE TAPE are there, too: whatever is done to them shows. */
    Scene furnished() {
        return then("image", "row 0 2 5 6", "type odds 7;sizes 8;seen 9");
    }

    Play play() {
        Play p = new Play();
        for (String step : steps) {
            p.does(step);
        }
        return p;
    }

    private String told(String call) {
        return call + " behind " + String.join(", ", steps);
    }

    void answers(int promise, String call, long want) {
        Due.is(promise, told(call), play().answer(call), want);
    }

    /** The call answers this, and behind it another one answers that. */
    void becomes(int promise, String call, long want, String behind, long then) {
        Play p = play();
        Due.is(promise, told(call), p.answer(call), want);
        Due.is(promise, told(behind + " behind " + call), p.answer(behind), then);
    }

    /** The call answers this, and the object looks as its twin on which it was not made. */
    void unchanged(int promise, String call, long want) {
        if (look == null) {
            look = Look.at(play());
        }
        Play p = play();
        Due.is(promise, told(call), p.answer(call), want);
        List<String> now = Look.at(p);
        for (int i = 0; i < look.size() || i < now.size(); i++) {
            String was = i < look.size() ? look.get(i) : "";
            String is = i < now.size() ? now.get(i) : "";
            if (!was.equals(is)) {
                Due.isTrue(promise, told(call) + " changed " + was + " to " + is, false);
                return;
            }
        }
        Due.isTrue(promise, told(call) + " changed nothing", true);
    }

    /** The call answers this, and behind it the object looks otherwise than its twin just so as is told ("count 3 = 7"). */
    void changes(int promise, String call, long want, String... told) {
        if (look == null) {
            look = Look.at(play());
        }
        Play p = play();
        Due.is(promise, told(call), p.answer(call), want);
        List<String> other = new ArrayList<>(Look.at(p));
        for (String row : look) {
            other.remove(row);
        }
        List<String> due = new ArrayList<>(List.of(told));
        Due.isTrue(promise, told(call) + " changed " + other + ", due is " + due, other.equals(due));
    }

    /**
     * The numbers in place of # that are taken: the least and the most answer so, those beside them and the very
     * least and the very most int are refused, and change nothing.
     */
    void ends(int promise, String call, int least, long wantLeast, int most, long wantMost, long refusal) {
        answers(promise, call.replace("#", "" + least), wantLeast);
        answers(promise, call.replace("#", "" + most), wantMost);
        beyond(promise, call, least, most, refusal);
    }

    void beyond(int promise, String call, int least, int most, long refusal) {
        for (int v : new int[] {least - 1, most + 1, Integer.MIN_VALUE, Integer.MAX_VALUE}) {
            unchanged(promise, call.replace("#", "" + v), refusal);
        }
    }
}
