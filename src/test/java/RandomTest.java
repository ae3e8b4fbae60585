import java.lang.reflect.InvocationTargetException;
import java.lang.reflect.Method;
import java.util.ArrayList;
import java.util.Arrays;
import java.util.Comparator;
import java.util.LinkedHashMap;
import java.util.List;
import java.util.Map;
import java.util.Random;

/** Long runs of calls, by fixed seeds: the class answers what the model does, and nothing is thrown. */
final class RandomTest {
    /** The calls of the face in the document's order: the promise of each is its place from 0 on and 2. */
    static final List<String> FACE = List.of(
        "count", "set", "feed", "text", "force", "asks", "life", "put", "told", "windfall", "claim", "mean", "keeps",
        "likely", "fair", "excess", "who", "hide", "none", "unseen", "round", "office", "ruin", "worst", "chain",
        "rings", "live", "run", "odds", "judge", "parts", "fits", "whose", "rule", "law", "film", "image", "back",
        "sheet", "cell", "copy", "livesBy", "taken");
    private static final int CALLS = 512;
    private static final int[] ODD_INTS = {
        Integer.MIN_VALUE, Integer.MIN_VALUE + 9, -100000, -5, -2, -1, 0, 1, 2, 3, 4, 5, 6, 7, 9, 10, 11, 12, 13, 16, 17,
        20, 21, 31, 32, 40, 41, 59, 60, 99, 100, 101, 160, 255, 256, 512, 990, 999, 1000, 4050, 4051, 9999, 10000,
        32768, 65535, 99999, 100000, Integer.MAX_VALUE - 1, Integer.MAX_VALUE};

    private final Random random;
    private final Map<String, Method> ours = new LinkedHashMap<>();
    private final Map<String, Method> models = new LinkedHashMap<>();
    private InsuredAgainstLuck x;
    private Model model;
    private final List<String> log = new ArrayList<>();
    private int differences = 0;

    private RandomTest(long seed) {
        random = new Random(seed);
        for (String name : FACE) {
            ours.put(name, named(InsuredAgainstLuck.class, name));
            models.put(name, named(Model.class, name));
        }
    }

    private static Method named(Class<?> type, String name) {
        return Arrays.stream(type.getDeclaredMethods())
            .filter(m -> m.getName().equals(name) && java.lang.reflect.Modifier.isPublic(m.getModifiers()))
            .min(Comparator.comparing(Method::getName)).orElseThrow();
    }

    static void run() {
        for (long seed = 1; seed <= 400; seed++) {
            if (new RandomTest(seed).differsIn(seed)) {
                return;
            }
        }
    }

    private boolean differsIn(long seed) {
        x = new InsuredAgainstLuck();
        model = new Model();
        boolean wild = seed % 5 == 0;
        // An object is left free behind its 512th call.
        while (log.size() < CALLS && differences == 0) {
            int turn = random.nextInt(100);
            if (turn < 6) {
                feedText();
            } else if (turn < 9) {
                tellYears();
            } else {
                String name = FACE.get(random.nextInt(FACE.size()));
                // Rarer ones, so that lives stay and texts are read whole.
                if (List.of("back", "feed", "text").contains(name) && random.nextInt(4) != 0) {
                    continue;
                }
                call(name, wild && random.nextInt(3) == 0 ? wildArguments(name) : arguments(name));
            }
        }
        return differences > 0;
    }

    private long call(String name, int... arguments) {
        if (log.size() >= CALLS || differences > 0) {
            return 0;
        }
        Object[] boxed = Arrays.stream(arguments).boxed().toArray();
        String shown = name + Arrays.toString(arguments);
        log.add(shown);
        try {
            long got = ((Number) ours.get(name).invoke(x, boxed)).longValue();
            long want = ((Number) models.get(name).invoke(model, boxed)).longValue();
            Due.is(FACE.indexOf(name) + 2, shown, got, want);
            if (got != want) {
                differ();
            }
            return got;
        } catch (InvocationTargetException | IllegalAccessException e) {
            Due.isTrue(FACE.indexOf(name) + 2, shown + " threw " + e.getCause(), false);
            differ();
            return 0;
        }
    }

    private void differ() {
        differences++;
        System.out.println(String.join("; ", log));
    }

    // ---- arguments

    private int any(int least, int most) {
        return least + random.nextInt(most - least + 1);
    }

    private int pick(int... of) {
        return of[random.nextInt(of.length)];
    }

    /** Mostly one within the bounds, at times one beside them. */
    private int near(int least, int most) {
        return random.nextInt(12) == 0 ? pick(least - 1, most + 1) : any(least, most);
    }

    private int aLife() {
        int lives = model.state.lives.size();
        return random.nextInt(15) == 0 ? near(0, 5) : lives == 0 ? 0 : any(0, lives - 1);
    }

    private int money() {
        return pick(0, 1, 9, 10, 11, any(0, 60), any(0, 400), any(0, 1500), any(0, 1500), any(0, 99999), 99999, 100000, -1);
    }

    private int[] wildArguments(String name) {
        int[] wild = new int[ours.get(name).getParameterCount()];
        for (int i = 0; i < wild.length; i++) {
            wild[i] = random.nextBoolean() ? pick(ODD_INTS) : random.nextInt();
        }
        return wild;
    }

    private int[] arguments(String name) {
        switch (name) {
            case "count": return new int[] {near(0, 7)};
            case "set": return new int[] {near(0, 1), money()};
            case "feed": return new int[] {near(1, 5), near(0, 255), any(97, 122), 32, 10, near(0, 255)};
            case "force": return new int[] {near(0, model.texts.size() - 1)};
            case "asks": return new int[] {near(0, 2), aLife(), near(0, 9999), near(0, 999)};
            case "life": return new int[] {near(0, 59), money(), near(0, 11)};
            case "put": return putArguments();
            case "told": return new int[] {aLife(), near(0, 7)};
            case "windfall": return new int[] {aLife(), near(0, 3)};
            case "claim": case "none": return new int[] {aLife(), money()};
            case "mean": case "keeps": return new int[] {aLife(), near(0, 6), near(0, 1)};
            case "likely": return new int[] {aLife(), near(0, 6), near(0, 6), near(0, 1)};
            case "fair": case "law": return new int[] {aLife(), near(1, 6)};
            case "excess": return new int[] {aLife(), pick(0, 1, 1, 2, 2, 3, 3, 4, 7), near(0, 1)};
            case "who": return new int[] {near(1, 6), near(0, 1)};
            case "hide": return new int[] {aLife(), money(), near(0, 1)};
            case "unseen": return new int[] {aLife(), money(), near(1, 9), near(0, 1)};
            case "round": return new int[] {near(0, 11), near(0, 1), near(0, 1)};
            case "office": case "worst": return new int[] {near(0, 1)};
            case "ruin": return new int[] {near(0, (1 << model.state.lives.size()) - 1), near(0, 1)};
            case "chain": return new int[] {aLife()};
            case "live": return new int[] {pick(any(0, 99999), any(0, 99999), any(0, 99999), -1, 100000)};
            case "run": return new int[] {any(0, 99999), near(0, 40), pick(-1, 0, 1, 2, 3, 10, 11, 12, 13, 14, 15)};
            case "odds": return new int[] {pick(any(0, 99999), 99999), 100 * near(0, 40) + near(1, 50), near(0, 1)};
            case "judge": case "parts": return new int[] {near(0, 3), aLife()};
            case "fits": return new int[] {near(0, 3), aLife(), pick(0, 1, 10, 11, 20, 21, any(-1, 31))};
            case "whose": return new int[] {near(0, 3), near(0, 1)};
            case "rule": return new int[] {near(0, 3), aLife(), near(0, 1)};
            case "film": return filmArguments();
            case "sheet": return new int[] {near(0, 3), pick(-2, -1, 0, 1, 2, 2, 3), pick(any(0, 9), near(0, 20), near(0, 40))};
            case "cell": return new int[] {near(0, 3), near(0, 39), pick(0, any(0, 59), any(0, 400), random.nextInt())};
            case "copy": return new int[] {any(0, 3), any(-1, 20), near(0, 3), any(-1, 20), any(-1, 12)};
            case "livesBy": return new int[] {near(0, 3), near(0, 2), near(0, 9), near(0, 5)};
            case "taken": return new int[] {near(0, 16), near(0, 6)};
            default: return new int[0];
        }
    }

    private int[] putArguments() {
        int what = near(0, 5);
        int v = what == 0 ? money() : what == 1 ? near(0, 999) : what == 2 ? near(0, 100) : what == 3 ? near(0, 11)
            : what == 4 ? near(-1, 4) : pick(0, 1, 2, 3, 97, 98, 99, 100, -1);
        return new int[] {aLife(), what, what == 1 && random.nextBoolean() ? any(0, 200) : v};
    }

    private int[] filmArguments() {
        int n = near(0, 20);
        return new int[] {near(0, 3), aLife(), near(0, (1 << Math.max(0, Math.min(20, n))) - 1), n};
    }

    // ---- texts and told years

    private void feedText() {
        StringBuilder text = new StringBuilder();
        text.append("odds ").append(expression(0)).append(";sizes\n").append(expression(0));
        text.append("; seen ").append(expression(0)).append(" ;");
        if (random.nextInt(3) == 0) {
            spoil(text);
        }
        if (model.tape.length() > 0) {
            call("text");
        }
        int size = Math.min(160, text.length());
        for (int i = 0; i < size; i += 5) {
            int[] bytes = new int[6];
            bytes[0] = Math.min(5, size - i);
            for (int j = 0; j < bytes[0]; j++) {
                bytes[j + 1] = text.charAt(i + j);
            }
            call("feed", bytes);
        }
        if (call("text") == InsuredAgainstLuck.FULL) {
            call("count", 7);
        }
        call("force", near(0, model.texts.size() - 1));
    }

    private void spoil(StringBuilder text) {
        String bits = "a z odds or and not 0 12345 00000 + - * < = ( ) ; A ! luck notx";
        String[] spoils = bits.split(" ");
        int at = random.nextInt(text.length());
        switch (random.nextInt(4)) {
            case 0: text.deleteCharAt(at); break;
            case 1: text.setLength(at); break;
            case 2: text.insert(at, " " + spoils[random.nextInt(spoils.length)] + " "); break;
            default: text.insert(at, (char) random.nextInt(256)); break;
        }
    }

    private String expression(int depth) {
        int turn = random.nextInt(depth > 6 ? 3 : 14);
        switch (turn) {
            case 0: case 1: return "" + pick(0, 1, 2, 30, 50, 99, 100, 101, 250, 998, 9999);
            case 2: return List.of("year", "luck", "more", "excess", "share", "much").get(random.nextInt(6));
            case 3: return "not " + expression(depth + 2);
            case 4: return "- " + expression(depth + 2);
            case 5: case 6: return "(" + expression(depth + 1) + ")";
            case 7: return expression(depth + 2) + " or " + expression(depth + 2);
            case 8: return expression(depth + 2) + " and " + expression(depth + 2);
            case 9: return expression(depth + 2) + "<" + expression(depth + 2);
            case 10: return expression(depth + 2) + "=" + expression(depth + 2);
            case 11: return expression(depth + 2) + "+" + expression(depth + 2);
            case 12: return expression(depth + 2) + "-" + expression(depth + 2);
            default: return expression(depth + 2) + "*" + expression(depth + 2);
        }
    }

    /** A sheet that tells years, perhaps a little otherwise, and what is asked of it. */
    private void tellYears() {
        int s = any(0, 3), l = aLife(), n = any(0, 12);
        call("film", s, l, any(0, (1 << n) - 1), n);
        if (random.nextInt(3) == 0) {
            call("cell", s, any(0, 12), pick(0, 1, 100, 110));
        }
        call("judge", s, l);
        call("parts", s, l);
        call("fits", s, l, pick(0, 1, 10, 11, 20, 21));
        call("whose", s, any(0, 1));
        call("rule", s, l, any(0, 1));
        call("judge", s, aLife());
    }
}
