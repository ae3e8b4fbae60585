import java.lang.reflect.InvocationTargetException;
import java.lang.reflect.Method;
import java.util.Arrays;
import java.util.HashMap;
import java.util.Map;

/** An object and what is done with it, told in words. It is left alone behind its 512th call: later answers are free. */
final class Play {
    static final int MOST = 512;
    private static final Map<String, Method> FACE = face();
    private final InsuredAgainstLuck x = new InsuredAgainstLuck();
    private int calls = 0;

    private static Map<String, Method> face() {
        Map<String, Method> face = new HashMap<>();
        for (Method m : InsuredAgainstLuck.class.getMethods()) {
            if (m.getDeclaringClass() == InsuredAgainstLuck.class) {
                face.put(m.getName(), m);
            }
        }
        return face;
    }

    /**
     * What is told: a call ("put 1 4 -1"), "99 times CALL", "type TEXT" (fed, not read), "read TEXT" (fed and read),
     * "law TEXT" (fed, read, forced), "row S SORT V V .." (a sheet of these numbers).
     */
    void does(String told) {
        String[] words = told.split(" ", 2);
        if (told.contains(" times ")) {
            String[] halves = told.split(" times ", 2);
            for (int i = 0; i < Integer.parseInt(halves[0]); i++) {
                does(halves[1]);
            }
        } else if (words[0].equals("type")) {
            type(words[1]);
        } else if (words[0].equals("read")) {
            type(words[1]);
            answer("text");
        } else if (words[0].equals("law") && !words[1].matches("[-0-9 ]*")) {
            type(words[1]);
            answer("force " + answer("text"));
        } else if (words[0].equals("row")) {
            row(numbers(words[1].split(" "), 0));
        } else {
            answer(told);
        }
    }

    private void type(String text) {
        for (int i = 0; i < text.length(); i += 5) {
            int n = Math.min(5, text.length() - i);
            int[] bytes = new int[6];
            bytes[0] = n;
            for (int j = 0; j < n; j++) {
                bytes[j + 1] = text.charAt(i + j);
            }
            answer("feed", bytes);
        }
    }

    private void row(int[] told) {
        answer("sheet", told[0], told[1], told.length - 2);
        for (int i = 2; i < told.length; i++) {
            answer("cell", told[0], i - 2, told[i]);
        }
    }

    /** What the call, told as its name and its numbers, answers. */
    long answer(String call) {
        String[] words = call.split(" ");
        return answer(words[0], numbers(words, 1));
    }

    private static int[] numbers(String[] words, int from) {
        return Arrays.stream(words).skip(from).mapToInt(Integer::parseInt).toArray();
    }

    int calls() {
        return calls;
    }

    long answer(String name, int... numbers) {
        calls++;
        if (calls > MOST) {
            Due.isTrue(1, "512 calls at most, not also " + name, false);
        }
        Object[] boxed = Arrays.stream(numbers).boxed().toArray();
        try {
            return ((Number) FACE.get(name).invoke(x, boxed)).longValue();
        } catch (InvocationTargetException | IllegalAccessException e) {
            Due.isTrue(1, name + Arrays.toString(numbers) + " threw " + e.getCause(), false);
            return Long.MIN_VALUE;
        }
    }
}
