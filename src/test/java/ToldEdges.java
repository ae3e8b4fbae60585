/** The edges of promises 31 to 39, a sentence of the document each: told years, and images. */
final class ToldEdges {
    private static final long NO = Calls.NO;
    private static final long ALL = 1000000000;
    private static final Scene HALF = new Scene("life 0 0 0", "law odds 50;sizes 100+luck*10;seen 0;");

    private ToldEdges() {
    }

    static void run() {
        judges();
        twentyYears();
        whatCantBeSo();
        timesAsItTells();
        yearsAndTimesOfJudges();
        parts();
        cutInEachYear();
        fits();
        fitsFromEndToEnd();
        whoses();
        rules();
        laws();
        films();
        filmsFromEndToEnd();
        images();
        whatAnImageKeeps();
        livesThatCameSince();
    }

    private static String row(int s, int sort, int n, int v) {
        return "row " + s + " " + sort + (" " + v).repeat(n);
    }

    private static void judges() {
        // BAD: SHEET; -11; BAD: it tells more than 20; -5: no such LIFE: of several the first one told.
        Scene.TOWN.ends(31, "judge # 0", 0, 2, 3, -11, -2);
        Scene.TOWN.ends(31, "judge 0 #", 0, 2, 2, 0, -5);
        Scene.TOWN.unchanged(31, "judge 2 0", -11);
        Scene.TOWN.unchanged(31, "judge 2 3", -11);
        Scene.TOWN.unchanged(31, "judge 4 3", -2);
        Scene.TOWN.unchanged(31, "judge -1 -1", -2);
        Scene.TOWN.unchanged(31, "judge 0 0", 2);
        Scene.NEW.unchanged(31, "judge 0 0", -11);
        Scene.NEW.then("sheet 0 2 0").unchanged(31, "judge 0 0", -5);
        for (int sort = 0; sort <= 2; sort++) {
            Scene long21 = Scene.TOWN.then("sheet 3 " + sort + " 21");
            long21.unchanged(31, "judge 3 0", -2);
            long21.unchanged(31, "judge 3 9", -2);
            long21.unchanged(31, "judge 3 -1", -2);
            long21.unchanged(32, "parts 3 0", NO);
            long21.unchanged(33, "fits 3 0 0", NO);
            long21.unchanged(34, "whose 3 0", NO);
            long21.unchanged(35, "rule 3 0 0", NO);
        }
        HALF.then("sheet 3 0 40").unchanged(31, "judge 3 0", -2);
    }

    private static void twentyYears() {
        // 20 YEARS at most: all of them count, and none is enough.
        for (int sort = 0; sort <= 2; sort++) {
            Scene none = HALF.then("sheet 0 " + sort + " 0");
            none.unchanged(31, "judge 0 0", -1);
            none.unchanged(32, "parts 0 0", ALL);
            none.unchanged(33, "fits 0 0 1", ALL);
            none.unchanged(34, "whose 0 1", ALL);
            none.unchanged(35, "rule 0 0 1", ALL);
            Scene twenty = HALF.then("sheet 0 " + sort + " 20");
            twenty.unchanged(31, "judge 0 0", -1);
            twenty.then("cell 0 19 7").answers(31, "judge 0 0", 19);
            twenty.then("cell 0 19 100").answers(31, "judge 0 0", -1);
            // Ten billionths and less are cut off: halves of 1000000000, twenty times.
            twenty.unchanged(32, "parts 0 0", 953);
            twenty.unchanged(33, "fits 0 0 0", 2);
            twenty.unchanged(34, "whose 0 1", 953);
            twenty.unchanged(35, "rule 0 0 0", 0);
        }
    }

    private static void judge(String law, int want, String years) {
        new Scene("life 0 0 0", "law " + law, "row 1 2" + years).answers(31, "judge 1 0", want);
    }

    private static void whatCantBeSo() {
        // No windfall by ODDS 100; one by ODDS 0, or of another SIZE.
        judge("odds 100;sizes 9;seen 0;", 0, " 0");
        judge("odds 99;sizes 9;seen 0;", -1, " 0");
        judge("odds 100;sizes 9;seen 0;", 1, " 9 0 9");
        judge("odds 0;sizes 9;seen 0;", 0, " 9");
        judge("odds 1;sizes 9;seen 0;", -1, " 9");
        judge("odds 0;sizes 9;seen 0;", -1, " 0 0");
        judge("odds 100;sizes 9;seen 0;", -1, " 9 9");
        judge("odds 50;sizes 9;seen 0;", 0, " 8");
        judge("odds 50;sizes 9;seen 0;", 0, " 10");
        judge("odds 50;sizes 9;seen 0;", 0, " -9");
        judge("odds 50;sizes 9;seen 0;", 1, " 0 -1");
        judge("odds 50;sizes 999;seen 0;", 1, " 999 1000");
        // A windfall of nothing can't be told from none: by ODDS 100 it can't be so.
        judge("odds 50;sizes 0;seen 0;", -1, " 0 0");
        judge("odds 100;sizes 0;seen 0;", 0, " 0");
        judge("odds 50;sizes 0;seen 0;", 1, " 0 1");
        // The first YEAR of several.
        judge("odds 50;sizes 9;seen 0;", 1, " 9 8 7 0 6");
    }

    private static void timesAsItTells() {
        judge("odds 50;sizes 100+luck*10;seen 0;", -1, " 0 100 0 0 110 120 0");
        judge("odds 50;sizes 100+luck*10;seen 0;", 2, " 0 100 100");
        judge("odds 50;sizes 100+luck*10;seen 0;", 0, " 110");
        judge("odds 100-luck*50;sizes 7;seen 0;", -1, " 7 7 0");
        judge("odds 100-luck*50;sizes 7;seen 0;", 2, " 7 7 7");
        judge("odds 100-luck*50;sizes 7;seen 0;", 0, " 0");
        // From LUCK on; to texts 99 at most.
        Scene late = HALF.then("put 0 5 97", "law odds 50;sizes luck;seen 0;");
        late.then("row 0 2 97 98 99 99 0 99").answers(31, "judge 0 0", -1);
        late.then("row 0 2 97 98 99 100").answers(31, "judge 0 0", 3);
        late.then("row 0 2 97 98 99 99").answers(32, "parts 0 0", ALL / 16);
        late.then("film 0 0 15 4").answers(31, "judge 0 0", -1);
        late.then("row 0 2 97 98 99 99 99", "film 0 0 15 4").answers(32, "parts 0 0", ALL / 16);
        // A WARD's fourth is half; an HEIR's first alone is three times as great.
        new Scene("life 30 0 0", "law odds 50;sizes 40;seen 0;", "row 0 0 20 20 0 20 10 10").answers(31, "judge 0 0", -1);
        new Scene("life 30 0 0", "law odds 50;sizes 40;seen 0;", "row 0 0 20 20 20 20").answers(31, "judge 0 0", 3);
        new Scene("life 50 0 0", "law odds 40;sizes 999;seen 0;", "row 0 1 2997 0 999").answers(31, "judge 0 0", 1);
        new Scene("life 50 0 0", "law odds 39;sizes 999;seen 0;", "row 0 1 2997 0 999").answers(31, "judge 0 0", -1);
        new Scene("life 50 0 0", "put 0 5 1", "law odds 39;sizes 999;seen 0;", "row 0 1 2997").answers(31, "judge 0 0", 0);
    }

    private static void yearsAndTimesOfJudges() {
        // Each YEAR from this one on, also behind 99.
        Scene s = new Scene("life 0 0 0", "law odds 50;sizes year;seen 0;", "97 times live 0");
        s.then("row 0 2 97 98 99 100 0 102").answers(31, "judge 0 0", -1);
        s.then("row 0 2 97 98 99 99").answers(31, "judge 0 0", 3);
        s.then("row 0 2 0 0 0 100 0 102").answers(32, "parts 0 0", ALL / 64);
        s.then("film 0 0 41 6").answers(31, "judge 0 0", -1);
        s.then("row 0 2 98").answers(31, "judge 0 0", 0);
        // Of bytes and shorts as much as they hold, with their signs.
        Scene signed = new Scene("life 0 0 0", "law odds 50;sizes 200;seen 0;");
        signed.then("row 0 0 200").answers(31, "judge 0 0", 0);
        signed.then("row 0 1 200").answers(31, "judge 0 0", -1);
        signed.then("row 0 1 65736").answers(31, "judge 0 0", -1);
        signed.then("row 0 2 65736").answers(31, "judge 0 0", 0);
        signed.then("row 0 0 256").answers(31, "judge 0 0", -1);
        signed.then("row 0 0 256").answers(32, "parts 0 0", ALL / 2);
    }

    private static void parts() {
        // 1000000000, of each YEAR times ODDS (a windfall of its SIZE; of another one 0), or 100 less ODDS. NO: refused likewise.
        Scene.TOWN.ends(32, "parts # 0", 0, 0, 3, NO, NO);
        Scene.TOWN.ends(32, "parts 0 #", 0, 0, 2, 0, NO);
        Scene.TOWN.unchanged(32, "parts 2 0", NO);
        Scene.NEW.then("sheet 0 2 0").unchanged(32, "parts 0 0", NO);
        long[][] so = {{0, 0, ALL}, {0, 9, 0}, {1, 0, 990000000}, {1, 9, 10000000}, {99, 0, 10000000}, {99, 9, 990000000}, {100, 0, 0}, {100, 9, ALL},
            {50, 8, 0}, {50, 10, 0}, {100, 8, 0}, {50, -9, 0}};
        for (long[] s : so) {
            Scene x = new Scene("life 0 0 0", "law odds " + s[0] + ";sizes 9;seen 0;");
            x.then("row 0 2 " + s[1]).answers(32, "parts 0 0", s[2]);
        }
        // Once 0 it stays so.
        HALF.then("row 0 2 7 0 0 0").answers(32, "parts 0 0", 0);
        HALF.then("row 0 2 100 0 110 0").answers(32, "parts 0 0", ALL / 16);
    }

    private static void cutInEachYear() {
        // By 100 (cut), in each YEAR.
        Scene one = new Scene("life 0 0 0", "law odds 1;sizes 9;seen 0;");
        long[] left = {ALL, 10000000, 100000, 1000, 10, 0, 0};
        for (int n = 0; n < left.length; n++) {
            one.then("sheet 0 2 0", row(0, 2, n, 9)).answers(32, "parts 0 0", left[n]);
        }
        one.then("row 0 2 9 9 9 9 0").answers(32, "parts 0 0", 9);
        one.then("row 0 2 0 9 9 9 9").answers(32, "parts 0 0", 9);
        one.then("row 0 2 9 9 9 9 0 0").answers(32, "parts 0 0", 8);
        // 33 of 100, seven times: 426184.4 by cuts, 426184.39 without any.
        Scene third = new Scene("life 0 0 0", "law odds 33;sizes 9;seen 0;");
        long[] cut = {ALL, 330000000, 108900000, 35937000, 11859210, 3913539, 1291467, 426184, 140640, 46411};
        for (int n = 0; n < cut.length; n++) {
            third.then("sheet 0 2 0", row(0, 0, n, 9)).answers(32, "parts 0 0", cut[n]);
        }
    }

    private static void fits() {
        // 10 times sort (0 KIND, 1 MORE, 2 LUCK), and what (0, 1). NO: likewise; sortWhat.
        Scene.TOWN.ends(33, "fits # 0 0", 0, 0, 3, NO, NO);
        Scene.TOWN.ends(33, "fits 0 # 0", 0, 0, 2, 0, NO);
        Scene.TOWN.ends(33, "fits 0 0 #", 0, 0, 21, 0, NO);
        for (int sortWhat : new int[] {-21, -20, -11, -10, -9, 2, 3, 8, 9, 12, 13, 19, 22, 29, 30, 31, 100, 101}) {
            Scene.TOWN.unchanged(33, "fits 0 0 " + sortWhat, NO);
        }
        for (int sortWhat : new int[] {0, 1, 10, 11, 20, 21}) {
            Scene.TOWN.unchanged(33, "fits 0 0 " + sortWhat, 0);
        }
        Scene.TOWN.unchanged(33, "fits 2 0 0", NO);
        Scene.TOWN.unchanged(33, "fits 0 3 0", NO);
    }

    private static void fitsFromEndToEnd() {
        // KINDS 0 .. 5: each by what it alone says of one with MORE 1, LUCK 3.
        Scene s = new Scene("life 1 0 0", "put 0 5 3", "law odds 40;sizes 100;seen 0;");
        int[] sizes = {100, 50, -1, 25, 90, 100};
        int[] odds = {40, 42, -1, 42, 20, 10};
        for (int kind = 0; kind <= 4; kind++) {
            if (kind != 2) {
                Scene told = s.then("row 0 2 " + sizes[kind]);
                told.unchanged(33, "fits 0 0 0", kind);
                told.unchanged(33, "fits 0 0 1", odds[kind] * 10000000L);
            }
        }
        Scene first = s.then("put 0 5 0", "row 0 2 300");
        first.unchanged(33, "fits 0 0 0", 5);
        first.unchanged(33, "fits 0 0 1", 100000000);
        // By ODDS 100 (an HEIR's in YEAR 1, too) none is CAREFUL's or CLUMSY's, alike: of like ones the least.
        new Scene("life 0 0 0", "law odds 100;sizes 100;seen 0;", "live 0", "row 0 2 0").answers(33, "fits 0 0 0", 2);
        new Scene("life 0 0 0", "law odds 100;sizes 100;seen 0;", "row 0 2 0").answers(33, "fits 0 0 0", 5);
        // MORE 0 .. 9, LUCK 0 .. 20, one alone; beside these none: of like ones the least.
        for (int v = -1; v <= 21; v++) {
            Scene more = new Scene("life 5 0 0", "law odds 50*(more=" + Math.max(0, v) + "+" + (v < 0 ? 99 : 0) + ");sizes 7;seen 0;", "row 0 0 7");
            more.answers(33, "fits 0 0 10", v >= 0 && v <= 9 ? v : 0);
            more.answers(33, "fits 0 0 11", v >= 0 && v <= 9 ? ALL / 2 : 0);
            Scene luck = new Scene("life 5 0 0", "put 0 5 50", "law odds 50*(luck=" + Math.max(0, v) + "+" + (v < 0 ? 99 : 0) + ");sizes 7;seen 0;",
                "row 0 0 7");
            luck.answers(33, "fits 0 0 20", v >= 0 && v <= 20 ? v : 0);
            luck.answers(33, "fits 0 0 21", v >= 0 && v <= 20 ? ALL / 2 : 0);
        }
        // All alike.
        Scene alike = new Scene("life 5 0 0", "law odds 50;sizes 7;seen 0;", "row 0 0 0");
        alike.answers(33, "fits 0 0 10", 0);
        alike.answers(33, "fits 0 0 20", 0);
        alike.answers(33, "fits 0 0 11", ALL / 2);
    }

    private static void whoses() {
        // The LIFE, of like ones the first; -1: there are none. NO: SHEET; it is missing; it tells more than 20; what.
        Scene.TOWN.ends(34, "whose # 0", 0, 0, 3, NO, NO);
        Scene.TOWN.ends(34, "whose 0 #", 0, 0, 1, 0, NO);
        Scene.TOWN.unchanged(34, "whose 0 0", 0);
        Scene.TOWN.unchanged(34, "whose 2 0", NO);
        Scene nobody = new Scene("row 0 2 0 5");
        nobody.unchanged(34, "whose 0 0", -1);
        nobody.unchanged(34, "whose 0 1", -1);
        nobody.beyond(34, "whose 0 #", 0, 1, NO);
        nobody.beyond(34, "whose # 0", 0, 3, NO);
        nobody.unchanged(34, "whose 1 0", NO);
        nobody.then("sheet 0 2 21").unchanged(34, "whose 0 0", NO);
        for (int l = 0; l < 5; l++) {
            Scene five = new Scene("5 times life 0 0 0", "put " + l + " 1 7", "law odds 20+(excess=7)*30;sizes 9;seen 0;", "row 0 0 9");
            five.answers(34, "whose 0 0", l);
            five.answers(34, "whose 0 1", ALL / 2);
            five.then("row 0 0 8").answers(34, "whose 0 0", 0);
            five.then("row 0 0 8").answers(34, "whose 0 1", 0);
            five.then("row 0 0 0").answers(34, "whose 0 0", l == 0 ? 1 : 0);
        }
    }

    private static void rules() {
        // The TEXT by which, were it THE LAW, that would be most, of like ones the first. NO: as of parts(); what.
        Scene.TOWN.ends(35, "rule # 0 0", 0, 0, 3, NO, NO);
        Scene.TOWN.ends(35, "rule 0 # 0", 0, 0, 2, 0, NO);
        Scene.TOWN.ends(35, "rule 0 0 #", 0, 0, 1, 0, NO);
        Scene.TOWN.unchanged(35, "rule 2 0 0", NO);
        Scene.NEW.then("sheet 0 2 0").unchanged(35, "rule 0 0 0", NO);
        Scene six = new Scene("life 0 0 0", "put 0 1 0", "put 0 2 100");
        for (int t = 1; t <= 5; t++) {
            six = six.then("read odds 30;sizes " + t + ";seen 0;");
        }
        for (int t = 1; t <= 5; t++) {
            Scene told = six.then("row 0 0 0 " + t, "force " + (6 - t));
            told.unchanged(35, "rule 0 0 0", t);
            told.unchanged(35, "rule 0 0 1", 210000000);
        }
        six.then("row 0 0 6").answers(35, "rule 0 0 0", 0);
        six.then("row 0 0 6").answers(35, "rule 0 0 1", 0);
        six.then("row 0 0 100").answers(35, "rule 0 0 0", 0);
        six.then("row 0 0 100").answers(35, "rule 0 0 1", 200000000);
        // None: by 20 of 100 likelier than by 30; and by each of 30 alike.
        six.then("row 0 0 0").answers(35, "rule 0 0 0", 0);
        six.then("put 0 5 0", "row 0 0 1 0 0").answers(35, "rule 0 0 0", 1);
    }

    private static void laws() {
        // n (1 .. 6). -5: no such LIFE; -7: n.
        Scene.TOWN.ends(36, "law 0 #", 1, 1, 6, 1, -7);
        Scene.TOWN.ends(36, "law # 1", 0, 1, 2, 1, -5);
        Scene.NEW.unchanged(36, "law 0 1", -5);
        Scene.TOWN.unchanged(36, "law 0 1", 1);
        Scene.TOWN.unchanged(36, "law 3 0", -5);
        Scene.TOWN.unchanged(36, "law -1 7", -5);
        for (int t = 1; t <= 5; t++) {
            Scene s = new Scene("life 0 0 0");
            for (int i = 1; i <= 5; i++) {
                s = s.then("read odds 50;sizes " + (i == t ? 101 : 100) + ";seen 0;");
            }
            s.answers(36, "law 0 1", 1);
            s.then("put 0 1 0", "put 0 2 100").unchanged(36, "law 0 6", t);
        }
        Scene.NEW.then("life 0 0 0").answers(36, "law 0 6", 0);
        // Nothing is TAKEN by any; asked of much ahead, then of nothing.
        new Scene("life 0 0 0", "read odds 100;sizes 999;seen 0;", "law 0 6", "put 0 2 0").answers(36, "law 0 6", 0);
        new Scene("life 0 0 0", "read odds 100;sizes 999;seen 0;", "life 0 0 0", "put 1 2 1", "put 1 1 50", "law 0 6").answers(36, "law 1 1", 1);
    }

    private static void films() {
        // n (0 .. 20) YEARS of a LIFE, set: bits of these. BAD: SHEET; -5: no such LIFE; -7: n, set.
        Scene.TOWN.ends(37, "film # 0 1 2", 0, 2, 3, 2, -2);
        Scene.TOWN.ends(37, "film 0 # 1 2", 0, 2, 2, 2, -5);
        Scene.TOWN.ends(37, "film 0 0 0 #", 0, 0, 20, 20, -7);
        Scene.TOWN.ends(37, "film 0 0 # 0", 0, 0, 0, 0, -7);
        Scene.TOWN.ends(37, "film 0 0 # 1", 0, 1, 1, 1, -7);
        Scene.TOWN.ends(37, "film 0 0 # 3", 0, 3, 7, 3, -7);
        Scene.TOWN.ends(37, "film 0 0 # 20", 0, 20, 1048575, 20, -7);
        Scene.TOWN.unchanged(37, "film 0 0 1 0", -7);
        Scene.TOWN.unchanged(37, "film 4 3 0 21", -2);
        Scene.TOWN.unchanged(37, "film -1 -1 -1 -1", -2);
        Scene.TOWN.unchanged(37, "film 0 3 0 21", -5);
        Scene.TOWN.unchanged(37, "film 0 -1 8 3", -5);
        Scene.TOWN.unchanged(37, "film 2 0 0 21", -7);
        Scene.NEW.unchanged(37, "film 0 0 0 0", -5);
    }

    /** The WEALTH that a number of a SHEET of ints stands for. */
    private static void shows(int promise, Scene s, int sheet, int... numbers) {
        for (int i = 0; i < numbers.length; i++) {
            s.then("sheet 3 2 3", "copy " + sheet + " " + i + " 3 1 1", "image", "livesBy 3 2 0 1").answers(promise, "told 1 0", numbers[i]);
        }
        s.answers(promise, "copy " + sheet + " " + numbers.length + " " + sheet + " 0 0", 0);
        s.answers(promise, "copy " + sheet + " " + (numbers.length + 1) + " " + sheet + " 0 0", -12);
        s.answers(promise, "livesBy " + sheet + " 2 0 0", 0);
    }

    private static void filmsFromEndToEnd() {
        Scene s = new Scene("life 0 0 0", "law odds 50;sizes 100+luck*10+year;seen 0;", "live 0", "put 0 5 2", "row 0 0 1 2 3 4 5 6 7");
        shows(37, s.then("film 0 0 0 0"), 0);
        shows(37, s.then("film 0 0 0 3"), 0, 0, 0, 0);
        shows(37, s.then("film 0 0 1 3"), 0, 121, 0, 0);
        shows(37, s.then("film 0 0 4 3"), 0, 0, 0, 123);
        shows(37, s.then("film 0 0 5 3"), 0, 121, 0, 133);
        shows(37, s.then("film 0 0 7 3"), 0, 121, 132, 143);
        shows(37, s.then("film 2 0 10 5"), 2, 0, 122, 0, 134, 0);
        Scene twenty = s.then("film 0 0 524289 20");
        twenty.then("sheet 3 2 3", "copy 0 19 3 1 1", "livesBy 3 2 0 1").answers(37, "told 1 0", 150);
        twenty.then("sheet 3 2 3", "copy 0 0 3 1 1", "livesBy 3 2 0 1").answers(37, "told 1 0", 121);
        twenty.answers(37, "judge 0 0", -1);
        // Whatever ODDS are, and with windfalls of nothing, which count as such.
        new Scene("life 0 0 0", "law odds 0;sizes 9;seen 0;", "film 0 0 1 1").answers(37, "judge 0 0", 0);
        shows(37, new Scene("life 0 0 0", "law odds 50;sizes luck*5;seen 0;", "film 0 0 7 3"), 0, 0, 5, 10);
        // It changes nothing but the SHEET.
        s.becomes(37, "film 0 0 7 3", 3, "told 0 5", 2);
        s.becomes(37, "film 0 0 7 3", 3, "count 1", 1);
    }

    private static void images() {
        // AN IMAGE is kept: how many LIVES. STATE: there is none.
        Scene.NEW.answers(38, "image", 0);
        Scene.TOWN.answers(38, "image", 3);
        Scene.FULL.unchanged(38, "image", 5);
        Scene.NEW.unchanged(39, "back", -3);
        Scene.NEW.then("life 0 0 0", "row 0 2 5 6", "type odds 7;sizes 8;seen 9").unchanged(39, "back", -3);
        Scene.NEW.then("life 0 0 0", "live 0").unchanged(39, "back", -3);
        Scene.NEW.then("image").unchanged(39, "back", 0);
        Scene.NEW.then("image", "life 0 0 0", "back").unchanged(39, "back", 0);
        Scene.FULL.unchanged(39, "back", 5);
        // It stays kept, and a new one is kept in its place.
        Scene two = new Scene("image", "life 0 5 0", "image", "life 0 6 0");
        two.becomes(39, "back", 1, "told 0 0", 5);
        two.then("back", "put 0 0 9").becomes(39, "back", 1, "told 0 0", 5);
        two.then("image", "put 1 0 9").becomes(39, "back", 2, "told 1 0", 6);
    }

    private static void whatAnImageKeeps() {
        // WEALTH, EXCESS, SHARE, HOUSE, INSURES, LUCK of all LIVES, how many there are, YEAR, FUND, GOAL, POOR, THE LAW.
        Scene five = new Scene("5 times life 0 5 5", "read odds 1;sizes 2;seen 3;", "image");
        int[] was = {5, 10, 50, 5, -1, 0};
        for (int l = 0; l < 5; l++) {
            for (int what = 0; what < was.length; what++) {
                String put = "put " + l + " " + what + " " + (what == 4 ? (l + 1) % 5 : 6);
                five.then(put).becomes(39, "back", 5, "told " + l + " " + what, was[what]);
            }
        }
        String[] changes = {"live 99", "set 0 5", "set 1 5", "force 1"};
        int[] counts = {1, 3, 4, 6};
        int[] were = {0, 1000, 50, 0};
        for (int i = 0; i < changes.length; i++) {
            five.then(changes[i]).becomes(39, "back", 5, "count " + counts[i], were[i]);
        }
        five.then("live 99").becomes(39, "back", 5, "count 2", 0);
        five.then("put 0 0 7", "set 0 3", "force 1", "live 99", "put 1 4 0", "back").unchanged(39, "back", 5);
        // Not TEXTS, THE TAPE, SHEETS.
        five.then("read odds 4;sizes 5;seen 6;").becomes(39, "back", 5, "count 5", 3);
        five.then("feed 3 1 2 3 4 5").becomes(39, "back", 5, "count 7", 3);
        five.then("row 1 1 4 5").becomes(39, "back", 5, "cell 1 1 0", 1);
        Scene kept = new Scene("row 0 2 5 6 7", "image", "cell 0 1 8", "sheet 1 0 3");
        kept.becomes(39, "back", 0, "cell 1 2 0", 1);
        kept.then("sheet 0 -1 0").becomes(39, "back", 0, "cell 0 0 0", -11);
        // A TEXT that came since may be THE LAW again.
        five.then("read odds 77;sizes 5;seen 6;", "force 2", "back").becomes(39, "force 2", 0, "windfall 0 0", 77);
    }

    private static void livesThatCameSince() {
        // LIVES that came since are none: how many there are.
        for (int had = 0; had <= 4; had++) {
            Scene s = had == 0 ? new Scene("image") : new Scene(had + " times life 0 5 3", "image");
            Scene more = s.then("life 11 7 4", (5 - had) + " times life 0 0 5");
            more.becomes(39, "back", had, "count 0", had);
            more.becomes(39, "back", had, "told " + had + " 0", -5);
            more.becomes(39, "back", had, "taken " + had + " 0", -11);
            more.becomes(39, "back", had, "taken 9 6", 0);
            more.then("back").answers(8, "life 12 3 4", had);
        }
        // Whom the first one insured since isn't insured.
        new Scene("life 0 0 0", "image", "life 0 0 0", "put 0 4 1", "back").answers(26, "chain 0", 0);
    }
}
