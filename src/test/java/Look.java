import java.util.ArrayList;
import java.util.List;

/** All that can be seen of an object, in words. The object is used up by it: ask its twin for anything else. */
final class Look {
    private final Play p;
    private final List<String> seen = new ArrayList<>();
    private final int[] sorts = new int[4];
    private final int[] sizes = new int[4];

    private Look(Play p) {
        this.p = p;
    }

    static List<String> at(Play p) {
        Look look = new Look(p);
        look.state("");
        look.sheets();
        look.ask("back");
        look.state("by the image ");
        look.texts();
        look.tape();
        look.cells();
        return look.seen;
    }

    private long ask(String call) {
        long answer = p.answer(call);
        seen.add(call + " = " + answer);
        return answer;
    }

    /** What an image keeps, and how much there is of what it does not keep. */
    private void state(String when) {
        for (int what = 0; what <= 7; what++) {
            seen.add(when + "count " + what + " = " + p.answer("count " + what));
        }
        for (int l = 0; l < 5; l++) {
            for (int what = 0; what <= 7; what++) {
                seen.add(when + "told " + l + " " + what + " = " + p.answer("told " + l + " " + what));
            }
        }
    }

    private void sheets() {
        for (int s = 0; s < 4; s++) {
            sorts[s] = -1;
            for (int sort = 0; sort <= 2; sort++) {
                if (p.answer("livesBy " + s + " " + sort + " 0 0") == 0) {
                    sorts[s] = sort;
                }
            }
            sizes[s] = sorts[s] < 0 ? 0 : sizeOf(s);
            seen.add("sort of " + s + " = " + sorts[s]);
            seen.add("size of " + s + " = " + sizes[s]);
        }
    }

    /** The greatest place to which nothing can be copied. */
    private int sizeOf(int s) {
        int least = 0;
        int most = 40;
        while (least < most) {
            int middle = (least + most + 1) / 2;
            if (p.answer("copy " + s + " " + middle + " " + s + " 0 0") == 0) {
                least = middle;
            } else {
                most = middle - 1;
            }
        }
        return least;
    }

    private void asks(String about) {
        for (int part = 0; part <= 2; part++) {
            seen.add(about + ", part " + part + " = " + p.answer("asks " + part + " 0 1203 45"));
        }
    }

    private void texts() {
        if (p.answer("count 0") == 0) {
            p.answer("life 2 0 0");
        }
        long texts = p.answer("count 5");
        for (int t = 0; t < texts && t < 6; t++) {
            p.answer("force " + t);
            asks("text " + t);
        }
    }

    /** What was fed shows when a ; and an end come behind it. */
    private void tape() {
        p.answer("feed 1 59 0 0 0 0");
        long t = ask("text");
        if (t >= 0) {
            p.answer("force " + t);
            asks("the tape's text");
        }
    }

    /** What stands in a sheet shows as somebody's WEALTH, if one more can come. */
    private void cells() {
        if (p.answer("count 0") >= 5) {
            return;
        }
        p.answer("image");
        int helper = 3;
        while (helper > 0 && sorts[helper] >= 0) {
            helper--;
        }
        for (int s = 0; s < 4; s++) {
            if (s != helper && sorts[s] >= 0) {
                cellsOf(s, helper);
            }
        }
    }

    private void cellsOf(int s, int helper) {
        p.answer("sheet " + helper + " " + sorts[s] + " 3");
        for (int i = 0; i < sizes[s] && i < 20; i++) {
            p.answer("copy " + s + " " + i + " " + helper + " 1 1");
            boolean came = p.answer("livesBy " + helper + " " + sorts[s] + " 0 1") == 1;
            String wealth = "none";
            if (came) {
                wealth = "" + p.answer("told " + (p.answer("count 0") - 1) + " 0");
                p.answer("back");
            }
            seen.add("number " + i + " of " + s + " = " + wealth);
        }
    }
}
