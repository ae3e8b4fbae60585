import java.io.IOException;
import java.nio.file.Files;
import java.nio.file.Path;
import java.util.List;
import java.util.regex.Matcher;
import java.util.regex.Pattern;

/** The class's source keeps to LANGUAGE.md, as far as its words show. */
final class SourceTest {
    private static final List<String> NEVER = List.of("\\bfinally\\b", "\\btry \\(", "\\bcatch \\((Exception|Throwable|Error)\\b",
        "\\bcatch \\([^)]*(ArrayIndexOutOfBounds|NullPointer|ClassCast|NegativeArraySize|ArrayStore)", "\\) ->", "[(,=] *\\w+ ->", "::", "Exact\\(",
        "\\bsynchronized\\b", "\\bassert\\b", "\\bprotected\\b", "\\bpackage\\b", "\\bSystem\\.(?!arraycopy)", "\\bThread\\b",
        "\\bMath\\.\\w*([rR]andom|sqrt|pow|floor\\(|ceil|round)", "\\bArrays\\.(?!copyOf|copyOfRange|fill)", "\\bString\\.",
        "\\bimport (?!java\\.util\\.)", "\\bhashCode\\b", "\\bgetMessage\\b", "\\bnative\\b", "for \\(;;", "while \\(true");

    private SourceTest() {
    }

    static void run(String root) {
        String source = read(root);
        String code = source.replaceAll("(?s)/\\*.*?\\*/", " ").replaceAll("//[^\n]*", " ");
        for (String never : NEVER) {
            Matcher m = Pattern.compile(never).matcher(code);
            boolean found = m.find();
            Due.isTrue(1, "the source has " + never + (found ? ": " + around(code, m.start()) : ""), !found);
        }
        Due.isTrue(1, "characters 1 to 127", source.chars().allMatch(c -> c > 0 && c < 128));
        methodsAreShort(source);
    }

    private static String read(String root) {
        try {
            return Files.readString(Path.of(root, "src/main/java/InsuredAgainstLuck.java"));
        } catch (IOException e) {
            Due.isTrue(1, "the source can be read: " + e, false);
            return "";
        }
    }

    private static String around(String code, int at) {
        return code.substring(Math.max(0, at - 20), Math.min(code.length(), at + 30)).trim();
    }

    /** A method begins behind four or eight blanks and ends where its brace stands alone behind as many. */
    private static void methodsAreShort(String source) {
        int begin = -1;
        String end = "";
        String[] lines = source.split("\n");
        for (int i = 0; i < lines.length; i++) {
            if (begin < 0 && lines[i].matches("( {4}| {8})[a-zA-Z].*\\) \\{") && !lines[i].contains(" class ")) {
                begin = i;
                end = lines[i].substring(0, lines[i].length() - lines[i].trim().length()) + "}";
            } else if (begin >= 0 && lines[i].equals(end)) {
                Due.isTrue(1, "sixty lines at most: " + lines[begin].trim(), i - begin + 1 <= 60);
                begin = -1;
            }
        }
    }
}
