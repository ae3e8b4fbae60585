/** Promises 31 to 39: told years, and images. */
final class ToldTest {
    private static final String HALF = "odds 50;sizes 100+luck*10;seen 0;";

    private ToldTest() {
    }

    static void run() {
        judges();
        partsOfYears();
        refusals();
        fits();
        whoses();
        rules();
        laws();
        films();
        images();
        imagesKeepAll();
    }

    private static void judge(InsuredAgainstLuck x, int want, int... years) {
        Calls.fill(x, 1, 2, years);
        Due.is(31, "judge of " + java.util.Arrays.toString(years), x.judge(1, 0), want);
    }

    private static void judges() {
        InsuredAgainstLuck x = Calls.under(HALF, 0);
        judge(x, -1);
        judge(x, -1, 0, 0, 0);
        judge(x, -1, 0, 100, 0, 110, 120);
        judge(x, 1, 0, 110, 100);
        judge(x, 2, 100, 110, 110);
        judge(x, 0, -1, 100);
        x.put(0, 5, 3);
        judge(x, -1, 130, 140);
        judge(x, 0, 100, 110);
        InsuredAgainstLuck y = Calls.under("odds 100*(1<year);sizes year*10+luck;seen 0;", 0);
        judge(y, -1, 0, 0, 20, 31, 42);
        judge(y, 1, 0, 10);
        judge(y, 3, 0, 0, 20, 0, 41);
        y.live(0);
        judge(y, -1, 0, 20, 31);
        judge(y, 0, 10, 20);
        // A windfall of nothing can't be told: that YEAR is as without one.
        InsuredAgainstLuck z = Calls.under("odds 50;sizes 0;seen 0;", 0);
        judge(z, -1, 0, 0);
        judge(z, 1, 0, 1);
        // 20 YEARS are told, not 21.
        Calls.fill(x, 0, 0, new int[20]);
        Due.is(31, "judge of 20", x.judge(0, 0), -1);
        Calls.fill(x, 0, 0, new int[21]);
        Due.is(31, "judge of 21", x.judge(0, 0), -2);
        // By bytes and shorts, too.
        Calls.fill(x, 0, 0, 0, 130);
        Due.is(31, "judge of a byte, which is -126", x.judge(0, 0), 1);
        Calls.fill(x, 0, 1, 0, 130);
        Due.is(31, "judge of a short", x.judge(0, 0), -1);
    }

    private static void parts(InsuredAgainstLuck x, long want, int... years) {
        Calls.fill(x, 1, 2, years);
        Due.is(32, "parts of " + java.util.Arrays.toString(years), x.parts(1, 0), want);
    }

    private static void partsOfYears() {
        InsuredAgainstLuck x = Calls.under(HALF, 0);
        parts(x, 1000000000);
        parts(x, 500000000, 0);
        parts(x, 62500000, 0, 100, 0, 110);
        parts(x, 0, 0, 110);
        parts(x, 0, 101, 0, 0);
        InsuredAgainstLuck y = Calls.under("odds 33;sizes 100;seen 0;", 0);
        parts(y, 330000000, 100);
        parts(y, 670000000, 0);
        // Cut in each YEAR.
        parts(y, 1291467, 100, 100, 100, 100, 100, 100);
        parts(y, 426184, 100, 100, 100, 100, 100, 100, 100);
        Calls.fill(y, 1, 2, new int[20]);
        Due.is(32, "parts of 20 years", y.parts(1, 0) > 0 ? 1 : 0, 1);
        Calls.fill(y, 1, 2, new int[21]);
        Due.is(32, "parts of 21 years", y.parts(1, 0), Calls.NO);
        InsuredAgainstLuck w = Calls.under("odds 10+year*10;sizes 100+year*10+luck;seen 0;", 0);
        parts(w, 362880, 0, 0, 0, 0, 0, 0, 0, 0, 0);
        parts(w, 14400000, 100, 0, 121, 0);
        w.live(3);
        w.put(0, 5, 0);
        parts(w, 56000000, 110, 0, 131);
        InsuredAgainstLuck z = Calls.under("odds 100*(luck=1);sizes 100;seen 0;", 0);
        parts(z, 0, 100);
        parts(z, 0, 100, 100);
        z.put(0, 5, 1);
        parts(z, 1000000000, 100, 0, 0);
        parts(z, 0, 0);
    }

    private static void refusals() {
        InsuredAgainstLuck x = Calls.under(HALF, 0);
        x.sheet(0, 2, 21);
        x.sheet(2, 0, 3);
        int[][] wrong = {{-1, 0, -2}, {4, 0, -2}, {1, 0, -11}, {1, 7, -11}, {0, 0, -2}, {0, 7, -2}, {2, 1, -5}, {2, -1, -5},
            {4, 7, -2}};
        for (int[] w : wrong) {
            Due.is(31, "judge(" + w[0] + ", " + w[1] + ")", x.judge(w[0], w[1]), w[2]);
            Due.is(32, "parts(" + w[0] + ", " + w[1] + ")", x.parts(w[0], w[1]), Calls.NO);
            Due.is(33, "fits(" + w[0] + ", " + w[1] + ", 0)", x.fits(w[0], w[1], 0), Calls.NO);
            Due.is(35, "rule(" + w[0] + ", " + w[1] + ", 0)", x.rule(w[0], w[1], 0), Calls.NO);
        }
        for (int sortWhat : new int[] {-1, 2, 9, 12, 19, 22, 30, 31, -10, Integer.MIN_VALUE}) {
            Due.is(33, "fits(2, 0, " + sortWhat + ")", x.fits(2, 0, sortWhat), Calls.NO);
        }
        for (int s : new int[] {-1, 4, 1, 0}) {
            Due.is(34, "whose(" + s + ", 0)", x.whose(s, 0), Calls.NO);
        }
        Due.is(34, "whose(2, 2)", x.whose(2, 2), Calls.NO);
        Due.is(34, "whose(2, -1)", x.whose(2, -1), Calls.NO);
        Due.is(35, "rule(2, 0, 2)", x.rule(2, 0, 2), Calls.NO);
        Due.is(35, "rule(2, 0, -1)", x.rule(2, 0, -1), Calls.NO);
    }

    private static void fit(InsuredAgainstLuck x, int sort, long which, long so) {
        Due.is(33, "fits(1, 0, " + sort + "0)", x.fits(1, 0, sort * 10), which);
        Due.is(33, "fits(1, 0, " + sort + "1)", x.fits(1, 0, sort * 10 + 1), so);
    }

    private static void fits() {
        InsuredAgainstLuck x = Calls.under(HALF, 1);
        // Only HEIR's first is 300; by MORE 1 an eighth, cut to 12, in YEAR 0.
        Calls.fill(x, 1, 2, 300);
        fit(x, 0, 5, 120000000);
        // Half as great: by GAMBLER and WARD, likelier by MORE.
        Calls.fill(x, 1, 2, 50);
        fit(x, 0, 1, 520000000);
        // 90 in the first YEAR: CLUMSY by MORE 1.
        Calls.fill(x, 1, 2, 90);
        fit(x, 0, 4, 250000000);
        fit(x, 1, 0, 0);
        Calls.fill(x, 1, 2, 0);
        fit(x, 0, 5, 880000000);
        // By LUCK: 100 and 10 times as much.
        Calls.fill(x, 1, 2, 300, 0, 310);
        fit(x, 2, 20, 125000000);
        Calls.fill(x, 1, 2, 310);
        fit(x, 2, 0, 0);
        Calls.fill(x, 1, 2, 0);
        fit(x, 2, 0, 500000000);
        Due.is(33, "nothing changed", x.told(0, 5) + x.told(0, 6), 0);
        InsuredAgainstLuck y = Calls.under("odds more*10;sizes 10+more;seen 0;", 0);
        Calls.fill(y, 1, 2, 17, 17);
        fit(y, 1, 7, 490000000);
        Calls.fill(y, 1, 2, 19);
        fit(y, 1, 9, 900000000);
        Calls.fill(y, 1, 2, 20);
        fit(y, 1, 0, 0);
    }

    private static void whoses() {
        InsuredAgainstLuck x = Calls.under(HALF);
        x.sheet(1, 2, 0);
        Due.is(34, "whose(1, 0), nobody", x.whose(1, 0), -1);
        Due.is(34, "whose(1, 1), nobody", x.whose(1, 1), -1);
        for (int kindMore : new int[] {0, 0, 13, 50}) {
            x.life(kindMore, 0, 0);
        }
        Due.is(34, "whose(1, 0), all alike", x.whose(1, 0), 0);
        Due.is(34, "whose(1, 1), all alike", x.whose(1, 1), 1000000000);
        Calls.fill(x, 1, 1, 50);
        Due.is(34, "whose(1, 0), a gambler's", x.whose(1, 0), 2);
        Due.is(34, "whose(1, 1), a gambler's", x.whose(1, 1), 560000000);
        Calls.fill(x, 1, 1, 0, 300);
        Due.is(34, "whose(1, 0), an heir's", x.whose(1, 0), 3);
        // In YEAR 0 a quarter is 12, in YEAR 1 it is 100, the bound of 120.
        Due.is(34, "whose(1, 1), an heir's", x.whose(1, 1), 880000000);
        Calls.fill(x, 1, 1, 77);
        Due.is(34, "whose(1, 0), nobody's", x.whose(1, 0), 0);
        Due.is(34, "whose(1, 1), nobody's", x.whose(1, 1), 0);
    }

    private static void rules() {
        InsuredAgainstLuck x = new InsuredAgainstLuck();
        x.life(0, 0, 0);
        Calls.read(x, HALF);
        Calls.read(x, "odds 90;sizes 7;seen 0;");
        Calls.read(x, HALF);
        Calls.fill(x, 1, 2, 100, 110);
        Due.is(35, "rule(1, 0, 0)", x.rule(1, 0, 0), 1);
        Due.is(35, "rule(1, 0, 1)", x.rule(1, 0, 1), 250000000);
        Calls.fill(x, 1, 2, 7, 7);
        Due.is(35, "rule(1, 0, 0)", x.rule(1, 0, 0), 2);
        Due.is(35, "rule(1, 0, 1)", x.rule(1, 0, 1), 810000000);
        Calls.fill(x, 1, 2, 0, 0);
        Due.is(35, "rule(1, 0, 0)", x.rule(1, 0, 0), 0);
        Due.is(35, "rule(1, 0, 1)", x.rule(1, 0, 1), 640000000);
        Calls.fill(x, 1, 2, 8);
        Due.is(35, "rule(1, 0, 0), by none", x.rule(1, 0, 0), 0);
        Due.is(35, "rule(1, 0, 1), by none", x.rule(1, 0, 1), 0);
        Due.is(35, "the law is as it was", x.count(6), 0);
    }

    private static void laws() {
        InsuredAgainstLuck x = new InsuredAgainstLuck();
        x.life(0, 0, 0);
        Due.is(36, "law(0, 1), one text", x.law(0, 1), 0);
        // More is taken by it in 1 YEAR, less in more.
        Calls.read(x, "odds 99*(luck=0);sizes 110;seen 0;");
        Calls.read(x, "odds 99*(luck=0);sizes 110;seen 0;");
        Calls.read(x, "odds 99;sizes 60;seen 0;");
        Due.is(36, "law(0, 1)", x.law(0, 1), 1);
        Due.is(36, "law(0, 6)", x.law(0, 6), 3);
        Due.is(36, "the law is as it was", x.count(6), 0);
        int[][] wrong = {{1, 1, -5}, {-1, 0, -5}, {0, 0, -7}, {0, 7, -7}};
        for (int[] w : wrong) {
            Due.is(36, "law(" + w[0] + ", " + w[1] + ")", x.law(w[0], w[1]), w[2]);
        }
    }

    private static void films() {
        InsuredAgainstLuck x = Calls.under(HALF, 0, 50);
        Due.is(37, "film(0, 0, 11, 5)", x.film(0, 0, 11, 5), 5);
        Due.is(37, "it can be so", x.judge(0, 0), -1);
        int[] years = {100, 110, 0, 120, 0};
        Calls.fill(x, 1, 2, years);
        Due.is(37, "as likely as the same years", x.parts(0, 0), x.parts(1, 0));
        // Ints: a copy to a sheet of another sort is refused, its length is 5.
        Due.is(37, "ints", x.copy(0, 0, 1, 0, 5), 5);
        Due.is(37, "not six", x.copy(0, 0, 1, 0, 6), -12);
        Due.is(37, "told all", x.judge(1, 0), -1);
        Due.is(37, "film(3, 1, 2, 2), an heir", x.film(3, 1, 3, 2), 2);
        Due.is(37, "three times as great once", x.fits(3, 1, 1), 120000000);
        Due.is(37, "film(3, 0, 0, 0)", x.film(3, 0, 0, 0), 0);
        Due.is(37, "an empty sheet", x.cell(3, 0, 0), -12);
        Due.is(37, "film(3, 0, 1048575, 20)", x.film(3, 0, 1048575, 20), 20);
        Due.is(37, "all of them", x.judge(3, 0), -1);
        x.put(0, 5, 1);
        Due.is(37, "by luck", x.judge(3, 0), 0);
        InsuredAgainstLuck y = Calls.under("odds 50;sizes 100+year*10+luck;seen 0;", 0);
        y.live(0);
        y.put(0, 5, 3);
        y.film(0, 0, 26, 5);
        Calls.fill(y, 1, 2, 0, 123, 0, 144, 155);
        Due.is(37, "by year and luck", y.parts(0, 0), y.parts(1, 0));
        Due.is(37, "they can be so", y.judge(1, 0), -1);
        Due.is(37, "and so can those of the film", y.judge(0, 0), -1);
        x.sheet(2, 0, 7);
        int[][] wrong = {{-1, 0, 0, 1, -2}, {4, 9, 0, 1, -2}, {2, 2, 0, 99, -5}, {2, -1, 0, 1, -5}, {2, 0, 0, -1, -7},
            {2, 0, 0, 21, -7}, {2, 0, -1, 3, -7}, {2, 0, 8, 3, -7}, {2, 0, 1, 0, -7}, {2, 0, 1048576, 20, -7}};
        for (int[] w : wrong) {
            Due.is(37, "a wrong film of " + w[0], x.film(w[0], w[1], w[2], w[3]), w[4]);
        }
        Due.is(37, "nothing changed", x.copy(2, 7, 2, 7, 0), 0);
    }

    private static void images() {
        InsuredAgainstLuck x = new InsuredAgainstLuck();
        Due.is(39, "back(), no image", x.back(), -3);
        Due.is(38, "image(), no lives", x.image(), 0);
        x.life(0, 0, 0);
        x.life(0, 0, 0);
        Due.is(39, "back() to no lives", x.back(), 0);
        Due.is(39, "count(0)", x.count(0), 0);
        Due.is(39, "told(0, 0)", x.told(0, 0), -5);
        x.life(31, 5, 6);
        Due.is(38, "image(), one life", x.image(), 1);
        x.life(42, 7, 8);
        Due.is(39, "back() to one life", x.back(), 1);
        Due.is(39, "back(), again", x.back(), 1);
        Due.is(39, "another one comes", x.life(57, 9, 10), 1);
        int[] is = {9, 10, 50, 10, -1, 0, 5, 7};
        for (int what = 0; what < is.length; what++) {
            Due.is(39, "as one comes: told(1, " + what + ")", x.told(1, what), is[what]);
        }
        Due.is(39, "the first one's kind", x.told(0, 6), 3);
        Due.is(38, "image() again", x.image(), 2);
        Due.is(39, "back() to that", x.back(), 2);
    }

    private static void imagesKeepAll() {
        InsuredAgainstLuck x = new InsuredAgainstLuck();
        Calls.read(x, HALF);
        x.life(0, 0, 0);
        x.life(0, 0, 0);
        int[] first = {500, 60, 70, 8, 1, 9};
        int[] then = {501, 61, 71, 9, -1, 10};
        for (int what = 0; what < first.length; what++) {
            x.put(0, what, first[what]);
        }
        x.set(0, 77);
        x.set(1, 88);
        x.force(1);
        x.live(1);
        int[] counts = new int[7];
        for (int what = 0; what < 7; what++) {
            counts[what] = x.count(what);
        }
        int wealth = x.told(0, 0), luck = x.told(0, 5);
        Due.is(38, "image()", x.image(), 2);
        for (int what = 0; what < then.length; what++) {
            x.put(0, what, then[what]);
        }
        x.put(1, 4, 0);
        x.set(0, 1);
        x.set(1, 2);
        x.force(0);
        x.live(2);
        x.live(3);
        x.feed(2, 1, 2, 3, 4, 5);
        Calls.fill(x, 2, 2, 0, 0);
        Due.is(39, "back()", x.back(), 2);
        for (int what = 0; what < 7; what++) {
            Due.is(39, "count(" + what + ")", x.count(what), counts[what]);
        }
        int[] now = {wealth, first[1], first[2], first[3], first[4], luck};
        for (int what = 0; what < now.length; what++) {
            Due.is(39, "told(0, " + what + ")", x.told(0, what), now[what]);
        }
        Due.is(39, "told(1, 4)", x.told(1, 4), -1);
        Due.is(39, "the tape isn't kept", x.count(7), 2);
        Due.is(39, "sheets aren't kept", x.cell(2, 1, 5), 1);
        Calls.read(x, "");
        Calls.read(x, HALF);
        Due.is(39, "texts aren't kept", x.back() + x.count(5), 2 + 3);
        Due.is(39, "a third text is not the law's", x.count(6), 1);
    }
}
