import java.util.Arrays;

/** Insured against luck: lives, their windfalls, what is taken of them. ../shared/DOC.md tells every call. */
public final class InsuredAgainstLuck {
    public static final int NONE = -1, BAD = -2, STATE = -3, FULL = -4;
    public static final long NO = -4611686018427387904L;

    private static final int NO_SUCH = -5, NOT_SO = -7;
    private static final int NOTHING = -11, OUTSIDE = -12, UNLIKE = -13, BELOW_0 = -14;

    private static final int MAX_LIVES = 5, MAX_TEXTS = 6, MAX_SHEETS = 4, KINDS = 6, HOUSES = 12;
    private static final int MAX_MONEY = 99999, MAX_EXCESS = 999, MAX_SEED = 99999;
    private static final int LAST_YEAR = 99, MAX_LUCK = 99, MAX_MUCH = 999, MAX_SIZE = 8991;
    private static final int MEAN_YEARS = 6, LOTS_YEARS = 40, TOLD_YEARS = 20, MAX_PARTS = 9;
    private static final int TAPE_BYTES = 160, SHEET_CELLS = 40, MAX_OPEN = 5, NAMES = 6;
    private static final String FIRST_TEXT = "odds 20 + more ; sizes 100 + luck * 10 ; seen 30 ;";

    private static final int LIFE = 0, GAMBLER = 1, CAREFUL = 2, WARD = 3, CLUMSY = 4, HEIR = 5, HOUSE = 6;
    private static final int OF_ODDS = 0, OF_SIZES = 1, OF_SEEN = 2;
    private static final int BYTES = 0, SHORTS = 1, INTS = 2, MISSING = -1;

    // Tokens: a sign is its own byte, so these stand above all bytes; keys and names in the document's order.
    private static final int END = 300, WRONG = 301, NUMBER = 302;
    private static final int ODDS = 310, SIZES = 311, SEEN = 312, OR = 313, AND = 314, NOT = 315;
    private static final int YEAR = 320, LUCK = 321, MORE = 322, EXCESS = 323, SHARE = 324, MUCH = 325;

    // Steps of a text: a number is itself, name i is -1 - i, the others these.
    private static final int DO_OR = -10, DO_AND = -11, DO_NOT = -12, DO_LESS = -13, DO_LIKE = -14;
    private static final int DO_PLUS = -15, DO_MINUS = -16, DO_TIMES = -17, DO_NEGATE = -18;

    private final World now = new World();
    private final World kept = new World();
    private final World thought = new World();
    private boolean hasImage = false;
    private final Tape tape = new Tape();
    private final Text firstText = new Text();
    private final Text[] texts = new Text[MAX_TEXTS];
    private int textCount = 1;
    private final Sheet[] sheets = new Sheet[MAX_SHEETS];
    private final Life guess = new Life();
    private final Best best = new Best();
    private final Outlook outlook = new Outlook();
    private final Adjuster adjuster = new Adjuster();
    private final Lots lots = new Lots();

    public InsuredAgainstLuck() {
        texts[0] = firstText;
        for (int t = 1; t < texts.length; t++) {
            texts[t] = new Text();
        }
        for (int s = 0; s < sheets.length; s++) {
            sheets[s] = new Sheet();
        }
        for (int i = 0; i < FIRST_TEXT.length(); i++) {
            tape.add(FIRST_TEXT.charAt(i));
        }
        tape.readText();
        firstText.become(tape.draft);
    }

    // ---- the law

    public int count(int what) {
        switch (what) {
            case 0: return now.lifeCount;
            case 1: return now.year;
            case 2: return now.fund;
            case 3: return now.goal;
            case 4: return now.poor;
            case 5: return textCount;
            case 6: return now.law;
            case 7: return tape.size;
            default: return BAD;
        }
    }

    public int set(int what, int v) {
        if (what < 0 || what > 1) {
            return NO_SUCH;
        }
        if (!within(v, 0, MAX_MONEY)) {
            return NOT_SO;
        }
        int was = what == 0 ? now.goal : now.poor;
        if (what == 0) {
            now.goal = v;
        } else {
            now.poor = v;
        }
        return was;
    }

    public int feed(int n, int a, int b, int c, int d, int e) {
        if (!within(n, 1, 5) || !isByte(a) || !isByte(b) || !isByte(c) || !isByte(d) || !isByte(e)) {
            return BAD;
        }
        if (tape.size + n > TAPE_BYTES) {
            return FULL;
        }
        for (int i = 0; i < n; i++) {
            tape.add(i == 0 ? a : i == 1 ? b : i == 2 ? c : i == 3 ? d : e);
        }
        return tape.size;
    }

    public int text() {
        if (textCount >= MAX_TEXTS) {
            return FULL;
        }
        int fault = tape.readText();
        if (fault != NONE) {
            return -100 - fault;
        }
        textCount++;
        textAt(textCount - 1).become(tape.draft);
        return textCount - 1;
    }

    public int force(int t) {
        if (t < 0 || t >= textCount) {
            return BAD;
        }
        int was = now.law;
        now.law = t;
        return was;
    }

    public int asks(int part, int l, int atTimes, int much) {
        Life one = now.lifeAt(l);
        if (!within(part, OF_ODDS, OF_SEEN) || one == null) {
            return BAD;
        }
        if (!within(atTimes, 0, 9999) || !within(much, 0, MAX_MUCH)) {
            return BAD;
        }
        return lawNow().says(part, one, atTimes / 100, atTimes % 100, much);
    }

    // ---- lives

    public int life(int kindMore, int rich, int home) {
        return now.welcome(kindMore, rich, home);
    }

    public int put(int l, int what, int v) {
        Life one = now.lifeAt(l);
        if (one == null) {
            return NO_SUCH;
        }
        if (!now.mayPut(l, what, v)) {
            return NOT_SO;
        }
        int was = one.get(what);
        one.change(what, v);
        return was;
    }

    public int told(int l, int what) {
        Life one = now.lifeAt(l);
        if (one == null) {
            return NO_SUCH;
        }
        return within(what, 0, 7) ? one.get(what) : NOT_SO;
    }

    // ---- a windfall

    public int windfall(int l, int what) {
        Life one = now.lifeAt(l);
        if (one == null) {
            return NO_SUCH;
        }
        Text law = lawNow();
        int size = one.sizeBy(law, now.year, one.luck);
        switch (what) {
            case 0: return one.oddsBy(law, now.year, one.luck);
            case 1: return size;
            case 2: return one.takenOf(size);
            case 3: return one.seenBy(law, now.year, size);
            default: return NOT_SO;
        }
    }

    public int claim(int l, int much) {
        Life one = now.lifeAt(l);
        if (one == null) {
            return NO_SUCH;
        }
        return within(much, 0, MAX_MONEY) ? one.takenOf(much) : NOT_SO;
    }

    // ---- so many years

    public long mean(int l, int n, int part) {
        Life one = now.lifeAt(l);
        if (one == null || !within(n, 0, MEAN_YEARS) || !within(part, 0, 1)) {
            return NO;
        }
        outlook.reckon(one, lawNow(), now.year, n);
        return lowest(outlook.taken, outlook.below, part);
    }

    public long keeps(int l, int n, int part) {
        Life one = now.lifeAt(l);
        if (one == null || !within(n, 0, MEAN_YEARS) || !within(part, 0, 1)) {
            return NO;
        }
        outlook.reckon(one, lawNow(), now.year, n);
        return lowest(outlook.kept, outlook.below, part);
    }

    public long likely(int l, int n, int times, int part) {
        Life one = now.lifeAt(l);
        if (one == null || !within(n, 0, MEAN_YEARS)) {
            return NO;
        }
        if (!within(times, 0, MEAN_YEARS) || !within(part, 0, 1)) {
            return NO;
        }
        outlook.reckon(one, lawNow(), now.year, n);
        return lowest(outlook.chanceOf(times), outlook.below, part);
    }

    public long fair(int l, int n) {
        Life one = now.lifeAt(l);
        if (one == null || !within(n, 1, MEAN_YEARS)) {
            return NO;
        }
        outlook.reckon(one, lawNow(), now.year, n);
        long below = outlook.below * n;
        return below > 0 ? (outlook.taken + below - 1) / below : NO;
    }

    public int excess(int l, int n, int goalOf) {
        Life one = now.lifeAt(l);
        if (one == null) {
            return NO_SUCH;
        }
        if (!within(n, 1, MEAN_YEARS) || !within(goalOf, 0, 1)) {
            return NOT_SO;
        }
        best.begin();
        guess.become(one);
        for (int e = 0; e <= 990; e += 10) {
            guess.excess = e;
            outlook.reckon(guess, lawNow(), now.year, n);
            best.offer(e, goalOf == 0 ? outlook.taken : outlook.kept);
        }
        return best.which;
    }

    public int who(int n, int goalOf) {
        if (!within(n, 1, MEAN_YEARS) || !within(goalOf, 0, 1)) {
            return BAD;
        }
        best.begin();
        for (int l = 0; l < now.lifeCount; l++) {
            Life one = now.lifeAt(l);
            if (one != null) {
                outlook.reckon(one, lawNow(), now.year, n);
                best.offer(l, goalOf == 0 ? outlook.taken : outlook.windfalls);
            }
        }
        return best.which;
    }

    // ---- hidden in parts

    public long hide(int l, int much, int what) {
        Life one = now.lifeAt(l);
        if (one == null) {
            return NO_SUCH;
        }
        if (!within(much, 0, MAX_MONEY) || !within(what, 0, 1)) {
            return NOT_SO;
        }
        int fewest = 1;
        long least = meansOf(one, much, 1);
        for (int count = 2; count <= MAX_PARTS; count++) {
            long means = meansOf(one, much, count);
            if (means < least) {
                least = means;
                fewest = count;
            }
        }
        return what == 0 ? fewest : least;
    }

    public int none(int l, int much) {
        Life one = now.lifeAt(l);
        if (one == null) {
            return NO_SUCH;
        }
        if (!within(much, 0, MAX_MONEY)) {
            return NOT_SO;
        }
        for (int count = 1; count <= MAX_PARTS; count++) {
            if (partOf(much, count, 0) <= one.excess) {
                return count;
            }
        }
        return NONE;
    }

    public long unseen(int l, int much, int parts, int part) {
        Life one = now.lifeAt(l);
        if (one == null || !within(much, 0, MAX_MONEY)) {
            return NO;
        }
        if (!within(parts, 1, MAX_PARTS) || !within(part, 0, 1)) {
            return NO;
        }
        long above = 1;
        long below = 1;
        for (int i = 0; i < parts; i++) {
            above *= 100 - one.seenBy(lawNow(), now.year, partOf(much, parts, i));
            below *= 100;
        }
        return lowest(above, below, part);
    }

    // ---- an adjuster

    public int round(int home, int goalOf, int what) {
        if (!within(home, 0, HOUSES - 1) || !within(goalOf, 0, 1) || !within(what, 0, 1)) {
            return BAD;
        }
        adjuster.seek(now, lawNow(), home, goalOf);
        return what == 0 ? adjuster.least : adjuster.bestDigits;
    }

    public int office(int what) {
        if (!within(what, 0, 1)) {
            return BAD;
        }
        adjuster.seek(now, lawNow(), 0, 0);
        int first = 0;
        int least = adjuster.least;
        for (int home = 1; home < HOUSES; home++) {
            adjuster.seek(now, lawNow(), home, 0);
            if (adjuster.least < least) {
                least = adjuster.least;
                first = home;
            }
        }
        return what == 0 ? first : least;
    }

    // ---- ruin

    public int ruin(int first, int what) {
        if (first < 0 || first >= 1 << now.lifeCount || !within(what, 0, 1)) {
            return BAD;
        }
        int ruined = now.ruinedBy(first);
        return what == 0 ? ruined : now.ruinSteps;
    }

    public int worst(int what) {
        if (!within(what, 0, 1)) {
            return BAD;
        }
        best.begin();
        for (int l = 0; l < now.lifeCount; l++) {
            best.offer(l, Integer.bitCount(now.ruinedBy(1 << l)));
        }
        return what == 0 ? best.which : (int) best.most;
    }

    public int chain(int l) {
        return now.lifeAt(l) == null ? NO_SUCH : Integer.bitCount(now.reachedFrom(l) & ~(1 << l));
    }

    public int rings() {
        int bits = 0;
        for (int l = 0; l < now.lifeCount; l++) {
            bits |= now.reachedFrom(l) & 1 << l;
        }
        return bits;
    }

    // ---- years by lots

    public int live(int seed) {
        if (!within(seed, 0, MAX_SEED)) {
            return BAD;
        }
        if (now.year >= LAST_YEAR) {
            return FULL;
        }
        lots.start(seed);
        now.taken = 0;
        int had = now.passYear(lots, lawNow());
        now.fund = Math.min(MAX_MONEY, now.fund + now.taken);
        return had;
    }

    public int run(int seed, int n, int what) {
        if (!within(seed, 0, MAX_SEED) || !within(n, 0, LOTS_YEARS)) {
            return BAD;
        }
        if (!within(what, 0, 2) && now.lifeAt(what - 10) == null) {
            return NOT_SO;
        }
        imagine(seed, n, false);
        Life one = thought.lifeAt(what - 10);
        if (one != null) {
            return one.wealth;
        }
        return what == 0 ? thought.taken : what == 1 ? thought.happy : thought.yearsAhead;
    }

    public long odds(int seed, int yearsSeeds, int part) {
        if (!within(seed, 0, MAX_SEED) || !within(yearsSeeds, 0, LOTS_YEARS * 100 + 99)) {
            return NO;
        }
        int seeds = yearsSeeds % 100;
        if (!within(seeds, 1, 50) || !within(part, 0, 1)) {
            return NO;
        }
        int happy = 0;
        for (int i = 0; i < seeds; i++) {
            imagine(seed + i, yearsSeeds / 100, true);
            if (thought.happy != NONE) {
                happy++;
            }
        }
        return lowest(happy, seeds, part);
    }

    // ---- told years

    public int judge(int s, int l) {
        Sheet sheet = sheetAt(s);
        if (sheet == null) {
            return BAD;
        }
        if (sheet.sort == MISSING) {
            return NOTHING;
        }
        if (sheet.size > TOLD_YEARS) {
            return BAD;
        }
        Life one = now.lifeAt(l);
        return one == null ? NO_SUCH : sheet.firstImpossible(one, lawNow(), now.year);
    }

    public long parts(int s, int l) {
        Sheet sheet = tellingAt(s);
        Life one = now.lifeAt(l);
        if (sheet == null || one == null) {
            return NO;
        }
        return sheet.likelihood(one, lawNow(), now.year);
    }

    public long fits(int s, int l, int sortWhat) {
        Sheet sheet = tellingAt(s);
        Life one = now.lifeAt(l);
        if (sheet == null || one == null || !within(sortWhat, 0, 21) || sortWhat % 10 > 1) {
            return NO;
        }
        int sort = sortWhat / 10;
        int what = sort == 0 ? 6 : sort == 1 ? 7 : 5;
        int last = sort == 0 ? KINDS - 1 : sort == 1 ? 9 : 20;
        best.begin();
        guess.become(one);
        for (int v = 0; v <= last; v++) {
            guess.change(what, v);
            best.offer(v, sheet.likelihood(guess, lawNow(), now.year));
        }
        return sortWhat % 10 == 0 ? best.which : best.most;
    }

    public long whose(int s, int what) {
        Sheet sheet = tellingAt(s);
        if (sheet == null || !within(what, 0, 1)) {
            return NO;
        }
        best.begin();
        for (int l = 0; l < now.lifeCount; l++) {
            Life one = now.lifeAt(l);
            if (one != null) {
                best.offer(l, sheet.likelihood(one, lawNow(), now.year));
            }
        }
        return what == 0 ? best.which : best.most;
    }

    public long rule(int s, int l, int what) {
        Sheet sheet = tellingAt(s);
        Life one = now.lifeAt(l);
        if (sheet == null || one == null || !within(what, 0, 1)) {
            return NO;
        }
        best.begin();
        for (int t = 0; t < textCount; t++) {
            best.offer(t, sheet.likelihood(one, textAt(t), now.year));
        }
        return what == 0 ? best.which : best.most;
    }

    public int law(int l, int n) {
        Life one = now.lifeAt(l);
        if (one == null) {
            return NO_SUCH;
        }
        if (!within(n, 1, MEAN_YEARS)) {
            return NOT_SO;
        }
        best.begin();
        for (int t = 0; t < textCount; t++) {
            outlook.reckon(one, textAt(t), now.year, n);
            best.offer(t, outlook.taken);
        }
        return best.which;
    }

    public int film(int s, int l, int set, int n) {
        Sheet sheet = sheetAt(s);
        if (sheet == null) {
            return BAD;
        }
        Life one = now.lifeAt(l);
        if (one == null) {
            return NO_SUCH;
        }
        if (!within(n, 0, TOLD_YEARS) || set < 0 || set >= 1 << n) {
            return NOT_SO;
        }
        sheet.become(INTS, n);
        sheet.tell(one, lawNow(), now.year, set);
        return n;
    }

    public int image() {
        kept.become(now);
        hasImage = true;
        return now.lifeCount;
    }

    public int back() {
        if (!hasImage) {
            return STATE;
        }
        now.become(kept);
        return now.lifeCount;
    }

    // ---- the host

    public int sheet(int s, int sort, int n) {
        Sheet sheet = sheetAt(s);
        if (sheet == null || !within(sort, MISSING, INTS)) {
            return BAD;
        }
        if (sort == MISSING) {
            sheet.become(MISSING, 0);
            return 1;
        }
        if (n > SHEET_CELLS) {
            return BAD;
        }
        if (n < 0) {
            return BELOW_0;
        }
        sheet.become(sort, n);
        return 1;
    }

    public int cell(int s, int i, int v) {
        Sheet sheet = sheetAt(s);
        if (sheet == null) {
            return BAD;
        }
        if (sheet.sort == MISSING) {
            return NOTHING;
        }
        if (i < 0 || i >= sheet.size) {
            return OUTSIDE;
        }
        sheet.write(i, v);
        return 1;
    }

    public int copy(int s, int i, int other, int j, int n) {
        Sheet from = sheetAt(s);
        Sheet to = sheetAt(other);
        if (from == null || to == null) {
            return BAD;
        }
        if (from.sort == MISSING || to.sort == MISSING) {
            return NOTHING;
        }
        if (from.sort != to.sort) {
            return UNLIKE;
        }
        if (!from.hasPlaces(i, n) || !to.hasPlaces(j, n)) {
            return OUTSIDE;
        }
        to.take(j, from, i, n);
        return n;
    }

    public int livesBy(int s, int sort, int at, int n) {
        Sheet sheet = sheetAt(s);
        if (sheet == null || !within(sort, BYTES, INTS) || !within(n, 0, MAX_LIVES)) {
            return BAD;
        }
        if (sheet.sort == MISSING) {
            return NOTHING;
        }
        if (sheet.sort != sort) {
            return UNLIKE;
        }
        int came = 0;
        int place = at;
        for (int i = 0; i < n; i++) {
            if (!sheet.hasPlaces(place, 3)) {
                return OUTSIDE;
            }
            if (now.welcome(sheet.read(place), sheet.read(place + 1), sheet.read(place + 2)) >= 0) {
                came++;
            }
            place += 3;
        }
        return came;
    }

    public int taken(int i, int kind) {
        if (!within(kind, LIFE, HOUSE)) {
            return BAD;
        }
        if (!within(i, 0, MAX_LIVES + HOUSES - 1)) {
            return OUTSIDE;
        }
        if (i >= MAX_LIVES) {
            return kind != HOUSE ? UNLIKE : now.isHome(i - MAX_LIVES) ? 1 : 0;
        }
        Life one = now.lifeAt(i);
        if (one == null) {
            return NOTHING;
        }
        return one.isOf(kind) ? i : UNLIKE;
    }

    // ---- what several calls use

    /** One of the texts that there are; the first one, which always is, for any other number. */
    private Text textAt(int t) {
        Text text = t >= 0 && t < textCount && t < texts.length ? texts[t] : null;
        return text == null ? firstText : text;
    }

    private Text lawNow() {
        return textAt(now.law);
    }

    private Sheet sheetAt(int s) {
        return s >= 0 && s < sheets.length ? sheets[s] : null;
    }

    /** A sheet that tells years; null if there is none such. */
    private Sheet tellingAt(int s) {
        Sheet sheet = sheetAt(s);
        return sheet == null || sheet.sort == MISSING || sheet.size > TOLD_YEARS ? null : sheet;
    }

    /** Part i of so many: what is left over goes to the first ones, one each. */
    private static int partOf(int much, int count, int i) {
        if (count <= 0) {
            return much;
        }
        return much / count + (i < much % count ? 1 : 0);
    }

    private long meansOf(Life one, int much, int count) {
        long means = 0;
        for (int i = 0; i < count; i++) {
            int part = partOf(much, count, i);
            means += (long) one.seenBy(lawNow(), now.year, part) * one.takenOf(part);
        }
        return means;
    }

    /** So many years pass in thought, or till somebody is happy. */
    private void imagine(int seed, int years, boolean tillHappy) {
        thought.become(now);
        lots.start(seed);
        for (int y = 0; y < years; y++) {
            thought.passYear(lots, lawNow());
            thought.noteHappy(y);
            if (tillHappy && thought.happy != NONE) {
                return;
            }
        }
    }

    private static boolean within(int v, int least, int most) {
        return v >= least && v <= most;
    }

    private static boolean isByte(int v) {
        return within(v, 0, 255);
    }

    private static int bounded(int v, int most) {
        return Math.max(0, Math.min(most, v));
    }

    private static int at(int[] row, int i) {
        return i >= 0 && i < row.length ? row[i] : 0;
    }

    private static void store(int[] row, int i, int v) {
        if (i >= 0 && i < row.length) {
            row[i] = v;
        }
    }

    /** What stands above (0) or below (1) the line of a fraction in lowest terms. */
    private static long lowest(long above, long below, int part) {
        long a = above;
        long b = below;
        // Far more rounds than two longs can need.
        for (int i = 0; i < 1000 && b != 0; i++) {
            long rest = a % b;
            a = b;
            b = rest;
        }
        long of = part == 0 ? above : below;
        return a > 0 ? of / a : of;
    }

    /** A life, or a thought one. */
    private static final class Life {
        int kind, more, wealth, excess, share, house, insures, luck;

        void come(int kindMore, int rich, int home) {
            kind = kindMore / 10;
            more = kindMore % 10;
            wealth = rich;
            excess = 10;
            share = 50;
            house = home;
            insures = NONE;
            luck = 0;
        }

        void become(Life other) {
            kind = other.kind;
            more = other.more;
            wealth = other.wealth;
            excess = other.excess;
            share = other.share;
            house = other.house;
            insures = other.insures;
            luck = other.luck;
        }

        int get(int what) {
            switch (what) {
                case 0: return wealth;
                case 1: return excess;
                case 2: return share;
                case 3: return house;
                case 4: return insures;
                case 5: return luck;
                case 6: return kind;
                default: return more;
            }
        }

        void change(int what, int v) {
            switch (what) {
                case 0: wealth = v; break;
                case 1: excess = v; break;
                case 2: share = v; break;
                case 3: house = v; break;
                case 4: insures = v; break;
                case 5: luck = v; break;
                case 6: kind = v; break;
                default: more = v; break;
            }
        }

        boolean isOf(int asked) {
            return asked == kind || asked == LIFE
                || asked == GAMBLER && kind == WARD || asked == CAREFUL && kind == CLUMSY;
        }

        int oddsBy(Text law, int year, int times) {
            int said = law.says(OF_ODDS, this, year, times, 0);
            switch (kind) {
                case GAMBLER:
                case WARD: return bounded(said + 2 * more, 100);
                case CAREFUL:
                case CLUMSY: return said / 2;
                case HEIR: return bounded(isHeirsYear(year) ? 2 * said + 20 : said / 4, 100);
                default: return said;
            }
        }

        private boolean isHeirsYear(int year) {
            int cycle = more + 2;
            return cycle > 0 && year % cycle == more + 1;
        }

        int sizeBy(Text law, int year, int times) {
            int said = law.says(OF_SIZES, this, year, times, 0);
            switch (kind) {
                case GAMBLER: return said / 2;
                case WARD: return times > 2 ? said / 2 / 2 : said / 2;
                case CLUMSY: return bounded(said - 10 * more, MAX_SIZE);
                case HEIR: return bounded(times == 0 ? 3 * said : said, MAX_SIZE);
                default: return said;
            }
        }

        int seenBy(Text law, int year, int much) {
            int said = law.says(OF_SEEN, this, year, luck, much);
            switch (kind) {
                case CAREFUL: return bounded(said - 3 * more, 100);
                case CLUMSY: return bounded(said - 3 * more + 20, 100);
                case WARD: return bounded(100 - more, 100);
                default: return said;
            }
        }

        int takenOf(int much) {
            return much > excess ? (much - excess) * share / 100 : 0;
        }

        void gain(int kept) {
            wealth = Math.min(MAX_MONEY, wealth + kept);
            luck = Math.min(MAX_LUCK, luck + 1);
        }
    }

    /** All that an image keeps; and what the last years in it came to. */
    private static final class World {
        final Life[] lives = new Life[MAX_LIVES];
        int lifeCount = 0, year = 0, fund = 0, goal = 1000, poor = 50, law = 0;
        int taken = 0, happy = NONE, yearsAhead = NONE, ruinSteps = 0;

        World() {
            for (int l = 0; l < lives.length; l++) {
                lives[l] = new Life();
            }
        }

        Life lifeAt(int l) {
            return l >= 0 && l < lifeCount && l < lives.length ? lives[l] : null;
        }

        void become(World other) {
            for (int l = 0; l < lives.length && l < other.lives.length; l++) {
                if (lives[l] != null && other.lives[l] != null) {
                    lives[l].become(other.lives[l]);
                }
            }
            lifeCount = other.lifeCount;
            year = other.year;
            fund = other.fund;
            goal = other.goal;
            poor = other.poor;
            law = other.law;
            taken = 0;
            happy = NONE;
            yearsAhead = NONE;
        }

        int welcome(int kindMore, int rich, int home) {
            if (!within(kindMore, 0, KINDS * 10 - 1) || !within(rich, 0, MAX_MONEY)) {
                return BAD;
            }
            if (!within(home, 0, HOUSES - 1)) {
                return BAD;
            }
            if (lifeCount >= MAX_LIVES) {
                return FULL;
            }
            lifeCount++;
            Life one = lifeAt(lifeCount - 1);
            if (one != null) {
                one.come(kindMore, rich, home);
            }
            return lifeCount - 1;
        }

        boolean mayPut(int l, int what, int v) {
            switch (what) {
                case 0: return within(v, 0, MAX_MONEY);
                case 1: return within(v, 0, MAX_EXCESS);
                case 2: return within(v, 0, 100);
                case 3: return within(v, 0, HOUSES - 1);
                case 4: return within(v, NONE, lifeCount - 1) && v != l;
                case 5: return within(v, 0, MAX_LUCK);
                default: return false;
            }
        }

        boolean isHome(int house) {
            for (int l = 0; l < lifeCount; l++) {
                Life one = lifeAt(l);
                if (one != null && one.house == house) {
                    return true;
                }
            }
            return false;
        }

        /** A year by lots: who had a windfall (bits); taken grows by what is taken. */
        int passYear(Lots lots, Text law) {
            int had = 0;
            for (int l = 0; l < lifeCount; l++) {
                Life one = lifeAt(l);
                int lot = lots.next();
                if (one != null && lot % 100 < one.oddsBy(law, year, one.luck)) {
                    int size = one.sizeBy(law, year, one.luck);
                    int part = one.takenOf(size);
                    one.gain(size - part);
                    taken += part;
                    had |= 1 << l;
                }
            }
            year++;
            return had;
        }

        /** Notes who is happy, behind a year that had so many ahead of it, if nobody was. */
        void noteHappy(int ahead) {
            for (int l = 0; l < lifeCount && happy == NONE; l++) {
                Life one = lifeAt(l);
                if (one != null && one.wealth >= goal) {
                    happy = l;
                    yearsAhead = ahead;
                }
            }
        }

        /** Who is ruined at last (bits); ruinSteps becomes how many steps it took. */
        int ruinedBy(int first) {
            int ruined = first;
            ruinSteps = 0;
            // Each step but the last ruins one more, so as many as there are lives are enough.
            for (int i = 0; i <= lifeCount; i++) {
                int next = ruined | poorBeside(ruined);
                if (next == ruined) {
                    return ruined;
                }
                ruined = next;
                ruinSteps++;
            }
            return ruined;
        }

        private int poorBeside(int ruined) {
            int bits = 0;
            for (int l = 0; l < lifeCount; l++) {
                Life one = lifeAt(l);
                Life insured = one == null ? null : lifeAt(one.insures);
                boolean pays = insured != null && (ruined >> one.insures & 1) == 1;
                if (one != null && one.wealth - (pays ? insured.excess : 0) < poor) {
                    bits |= 1 << l;
                }
            }
            return bits;
        }

        /** All to whom one comes by whom each insures, till there is none or it was come to (bits). */
        int reachedFrom(int l) {
            int bits = 0;
            Life one = lifeAt(l);
            for (int i = 0; i <= lifeCount && one != null; i++) {
                int next = one.insures;
                one = lifeAt(next);
                if (one != null) {
                    bits |= 1 << next;
                }
            }
            return bits;
        }
    }

    /** Of all that are offered, the first of which there is most; nothing that is offered is below 0. */
    private static final class Best {
        int which = NONE;
        long most = NONE;

        void begin() {
            which = NONE;
            most = NONE;
        }

        void offer(int one, long much) {
            if (much > most) {
                which = one;
                most = much;
            }
        }
    }

    private static final class Lots {
        long last = 1;

        void start(int seed) {
            last = seed + 1L;
        }

        int next() {
            last = last * 48271 % 2147483647L;
            return (int) last;
        }
    }

    /** What so many years of a life bring: all as what stands above one line, below. */
    private static final class Outlook {
        final long[] chance = new long[MEAN_YEARS + 1];
        long below = 1, taken = 0, kept = 0, windfalls = 0;

        long chanceOf(int times) {
            return times >= 0 && times < chance.length ? chance[times] : 0;
        }

        void reckon(Life one, Text law, int year, int n) {
            Arrays.fill(chance, 0);
            chance[0] = 1;
            below = 1;
            taken = 0;
            kept = 0;
            windfalls = 0;
            for (int y = 0; y < n; y++) {
                below *= 100;
                taken *= 100;
                kept *= 100;
                windfalls *= 100;
                // From the most windfalls on: so the chance of fewer is still that of the year ahead.
                for (int had = y; had >= 0; had--) {
                    passYear(one, law, year + y, had);
                }
            }
        }

        private void passYear(Life one, Text law, int year, int had) {
            if (had < 0 || had + 1 >= chance.length) {
                return;
            }
            int times = one.luck + had;
            int odds = one.oddsBy(law, year, times);
            int size = one.sizeBy(law, year, times);
            int part = one.takenOf(size);
            long with = chance[had] * odds;
            taken += with * part;
            kept += with * (size - part);
            windfalls += with;
            chance[had + 1] += with;
            chance[had] *= 100 - odds;
        }
    }

    /** Seeks the best of all orders in which to call. */
    private static final class Adjuster {
        final int[] order = new int[MAX_LIVES];
        final int[] houses = new int[MAX_LIVES];
        final int[] loads = new int[MAX_LIVES];
        int count = 0, least = 0, bestDigits = 0;

        void seek(World world, Text law, int home, int goalOf) {
            count = world.lifeCount;
            for (int l = 0; l < count; l++) {
                Life one = world.lifeAt(l);
                if (one != null) {
                    store(order, l, l);
                    store(houses, l, one.house);
                    store(loads, l, goalOf == 0 ? 0 : one.takenOf(one.sizeBy(law, world.year, one.luck)));
                }
            }
            least = cost(home, goalOf);
            bestDigits = digits();
            // Five lives have 120 orders.
            for (int i = 0; i < 120 && toNextOrder(); i++) {
                int cost = cost(home, goalOf);
                if (cost < least) {
                    least = cost;
                    bestDigits = digits();
                }
            }
        }

        private int cost(int home, int goalOf) {
            int way = 0;
            int together = 0;
            int here = home;
            for (int i = 0; i < count; i++) {
                int next = at(order, i);
                way += wayBetween(here, at(houses, next));
                together += at(loads, next) * way;
                here = at(houses, next);
            }
            return goalOf == 0 ? way : together;
        }

        private static int wayBetween(int a, int b) {
            int way = Math.abs(a - b);
            return Math.min(way, HOUSES - way);
        }

        private int digits() {
            int digits = 0;
            for (int i = 0; i < count; i++) {
                digits = digits * 10 + at(order, i) + 1;
            }
            return digits;
        }

        /** The order becomes the next one by whom is first, then next, ..; false: it was the last. */
        private boolean toNextOrder() {
            int rise = count - 2;
            while (rise >= 0 && at(order, rise) > at(order, rise + 1)) {
                rise--;
            }
            if (rise < 0) {
                return false;
            }
            int greater = count - 1;
            while (greater > rise && at(order, greater) < at(order, rise)) {
                greater--;
            }
            swap(rise, greater);
            for (int i = rise + 1, j = count - 1; i < j; i++, j--) {
                swap(i, j);
            }
            return true;
        }

        private void swap(int i, int j) {
            int was = at(order, i);
            store(order, i, at(order, j));
            store(order, j, was);
        }
    }

    /** A row of numbers, or a missing one. */
    private static final class Sheet {
        final int[] cells = new int[SHEET_CELLS];
        int sort = MISSING, size = 0;

        void become(int newSort, int n) {
            sort = newSort;
            size = n;
            Arrays.fill(cells, 0);
        }

        int read(int i) {
            return at(cells, i);
        }

        void write(int i, int v) {
            store(cells, i, sort == BYTES ? (byte) v : sort == SHORTS ? (short) v : v);
        }

        boolean hasPlaces(int i, int n) {
            return i >= 0 && n >= 0 && i <= size && n <= size - i;
        }

        /** n numbers of a sheet of the same sort come, as they were, from its place i to place j. */
        void take(int j, Sheet from, int i, int n) {
            if (hasPlaces(j, n) && from.hasPlaces(i, n)) {
                System.arraycopy(from.cells, i, cells, j, n);
            }
        }

        int firstImpossible(Life one, Text law, int year) {
            int times = one.luck;
            for (int y = 0; y < size; y++) {
                int had = read(y);
                int odds = one.oddsBy(law, year + y, times);
                if (had == 0 && odds == 100) {
                    return y;
                }
                if (had != 0 && (odds == 0 || had != one.sizeBy(law, year + y, times))) {
                    return y;
                }
                times += had == 0 ? 0 : 1;
            }
            return NONE;
        }

        long likelihood(Life one, Text law, int year) {
            long likelihood = 1000000000L;
            int times = one.luck;
            for (int y = 0; y < size; y++) {
                int had = read(y);
                int odds = one.oddsBy(law, year + y, times);
                if (had == 0) {
                    likelihood = likelihood * (100 - odds) / 100;
                } else {
                    boolean fitting = had == one.sizeBy(law, year + y, times);
                    likelihood = fitting ? likelihood * odds / 100 : 0;
                    times++;
                }
            }
            return likelihood;
        }

        void tell(Life one, Text law, int year, int windfalls) {
            int times = one.luck;
            for (int y = 0; y < size; y++) {
                if ((windfalls >> y & 1) == 1) {
                    write(y, one.sizeBy(law, year + y, times));
                    times++;
                }
            }
        }
    }

    /** A text that was read: for each of its parts the steps that reckon it. */
    private static final class Text {
        // No text has more steps than bytes, and none puts more numbers by than it has steps.
        final int[] steps = new int[TAPE_BYTES];
        final int[] stack = new int[TAPE_BYTES];
        final int[] ends = new int[3];
        final int[] names = new int[NAMES];
        int size = 0;

        void clear() {
            size = 0;
            Arrays.fill(ends, 0);
        }

        void add(int step) {
            store(steps, size, step);
            size++;
        }

        void endPart(int part) {
            store(ends, part, size);
        }

        void become(Text other) {
            for (int i = 0; i < steps.length; i++) {
                store(steps, i, at(other.steps, i));
            }
            for (int part = 0; part < ends.length; part++) {
                store(ends, part, at(other.ends, part));
            }
            size = other.size;
        }

        int says(int part, Life one, int year, int times, int much) {
            store(names, 0, year);
            store(names, 1, Math.min(MAX_LUCK, times));
            store(names, 2, one.more);
            store(names, 3, one.excess);
            store(names, 4, one.share);
            store(names, 5, Math.min(MAX_MUCH, much));
            return bounded(reckoned(part), part == OF_SIZES ? 999 : 100);
        }

        private int reckoned(int part) {
            int height = 0;
            int end = at(ends, part);
            for (int i = part == 0 ? 0 : at(ends, part - 1); i < end; i++) {
                int step = at(steps, i);
                int last = at(stack, height - 1);
                if (step >= -NAMES) {
                    store(stack, height, step >= 0 ? step : at(names, -1 - step));
                    height++;
                } else if (step == DO_NOT) {
                    store(stack, height - 1, last == 0 ? 1 : 0);
                } else if (step == DO_NEGATE) {
                    store(stack, height - 1, -last);
                } else {
                    height--;
                    store(stack, height - 1, joined(step, at(stack, height - 1), last));
                }
            }
            return at(stack, height - 1);
        }

        private static int joined(int step, int a, int b) {
            switch (step) {
                case DO_OR: return a != 0 || b != 0 ? 1 : 0;
                case DO_AND: return a != 0 && b != 0 ? 1 : 0;
                case DO_LESS: return a < b ? 1 : 0;
                case DO_LIKE: return a == b ? 1 : 0;
                case DO_PLUS: return a + b;
                case DO_MINUS: return a - b;
                default: return a * b;
            }
        }
    }

    /** The bytes that were fed, and the reading of a text from them. */
    private static final class Tape {
        final int[] bytes = new int[TAPE_BYTES];
        final Text draft = new Text();
        int size = 0;
        // The token that is next: what it is, where it begins, where what is behind it does.
        int token = END, begin = 0, behind = 0, number = 0;
        int open = 0;

        void add(int b) {
            if (size < bytes.length) {
                store(bytes, size, b);
                size++;
            }
        }

        /** The tape is read into the draft, and empty then: the place of the fault, or NONE. */
        int readText() {
            draft.clear();
            open = 0;
            behind = 0;
            advance();
            boolean fine = true;
            for (int part = OF_ODDS; part <= OF_SEEN && fine; part++) {
                fine = pass(ODDS + part) && readOr() && pass(';');
                draft.endPart(part);
            }
            int fault = fine && token == END ? NONE : begin;
            size = 0;
            return fault;
        }

        // Each of these reads what its name tells; false: the next token can't stand there.

        private boolean readOr() {
            if (!readAnd()) {
                return false;
            }
            for (int i = 0; i < TAPE_BYTES && token == OR; i++) {
                advance();
                if (!readAnd()) {
                    return false;
                }
                draft.add(DO_OR);
            }
            return true;
        }

        private boolean readAnd() {
            if (!readNot()) {
                return false;
            }
            for (int i = 0; i < TAPE_BYTES && token == AND; i++) {
                advance();
                if (!readNot()) {
                    return false;
                }
                draft.add(DO_AND);
            }
            return true;
        }

        private boolean readNot() {
            if (token == NOT) {
                if (!opens() || !readNot()) {
                    return false;
                }
                open--;
                draft.add(DO_NOT);
                return true;
            }
            if (!readSum()) {
                return false;
            }
            if (token != '<' && token != '=') {
                return true;
            }
            int step = token == '<' ? DO_LESS : DO_LIKE;
            advance();
            if (!readSum()) {
                return false;
            }
            draft.add(step);
            return true;
        }

        private boolean readSum() {
            if (!readTerm()) {
                return false;
            }
            for (int i = 0; i < TAPE_BYTES && (token == '+' || token == '-'); i++) {
                int step = token == '+' ? DO_PLUS : DO_MINUS;
                advance();
                if (!readTerm()) {
                    return false;
                }
                draft.add(step);
            }
            return true;
        }

        private boolean readTerm() {
            if (!readOne()) {
                return false;
            }
            for (int i = 0; i < TAPE_BYTES && token == '*'; i++) {
                advance();
                if (!readOne()) {
                    return false;
                }
                draft.add(DO_TIMES);
            }
            return true;
        }

        private boolean readOne() {
            if (token == NUMBER) {
                draft.add(number);
                advance();
                return true;
            }
            if (within(token, YEAR, MUCH)) {
                draft.add(-1 - (token - YEAR));
                advance();
                return true;
            }
            if (token == '-') {
                if (!opens() || !readOne()) {
                    return false;
                }
                open--;
                draft.add(DO_NEGATE);
                return true;
            }
            if (token != '(' || !opens() || !readOr() || !pass(')')) {
                return false;
            }
            open--;
            return true;
        }

        /** Passes what opens another level, if not too many are open. */
        private boolean opens() {
            if (open >= MAX_OPEN) {
                return false;
            }
            open++;
            advance();
            return true;
        }

        private boolean pass(int due) {
            if (token != due) {
                return false;
            }
            advance();
            return true;
        }

        private void advance() {
            begin = behind;
            while (begin < size && (at(bytes, begin) == ' ' || at(bytes, begin) == '\n')) {
                begin++;
            }
            behind = begin;
            if (begin >= size) {
                token = END;
                return;
            }
            int first = at(bytes, begin);
            if (isLetter(first)) {
                advanceWord();
            } else if (isDigit(first)) {
                advanceNumber();
            } else {
                behind++;
                token = isSign(first) ? first : WRONG;
            }
        }

        private void advanceWord() {
            while (behind < size && isLetter(at(bytes, behind))) {
                behind++;
            }
            token = spells("odds") ? ODDS : spells("sizes") ? SIZES : spells("seen") ? SEEN
                : spells("or") ? OR : spells("and") ? AND : spells("not") ? NOT
                : spells("year") ? YEAR : spells("luck") ? LUCK : spells("more") ? MORE
                : spells("excess") ? EXCESS : spells("share") ? SHARE : spells("much") ? MUCH : WRONG;
        }

        private void advanceNumber() {
            number = 0;
            while (behind < size && isDigit(at(bytes, behind))) {
                number = number * 10 + at(bytes, behind) - '0';
                behind++;
            }
            token = behind - begin > 4 ? WRONG : NUMBER;
        }

        private boolean spells(String word) {
            if (begin < 0 || behind > bytes.length || word.length() != behind - begin) {
                return false;
            }
            for (int i = 0; i < word.length(); i++) {
                if (word.charAt(i) != bytes[begin + i]) {
                    return false;
                }
            }
            return true;
        }

        private static boolean isLetter(int b) {
            return b >= 'a' && b <= 'z';
        }

        private static boolean isDigit(int b) {
            return b >= '0' && b <= '9';
        }

        private static boolean isSign(int b) {
            return b == '(' || b == ')' || b == ';' || b == '+' || b == '-' || b == '*' || b == '<' || b == '=';
        }
    }
}
