/** What several tests begin with. */
final class Calls {
    static final long NO = -4611686018427387904L;

    private Calls() {
    }

    /** A text is fed, five bytes at a time, and read. */
    static int read(InsuredAgainstLuck x, String text) {
        feed(x, text);
        return x.text();
    }

    static void feed(InsuredAgainstLuck x, String text) {
        for (int i = 0; i < text.length(); i += 5) {
            int n = Math.min(5, text.length() - i);
            x.feed(n, text.charAt(i), byteAt(text, i + 1), byteAt(text, i + 2), byteAt(text, i + 3), byteAt(text, i + 4));
        }
    }

    private static int byteAt(String text, int i) {
        return i < text.length() ? text.charAt(i) : 0;
    }

    /** A new object whose law is this text. */
    static InsuredAgainstLuck under(String text) {
        InsuredAgainstLuck x = new InsuredAgainstLuck();
        x.force(read(x, text));
        return x;
    }

    /** Likewise, with lives (of kindMore each) in houses 0, 1, .. that have nothing. */
    static InsuredAgainstLuck under(String text, int... kindMore) {
        InsuredAgainstLuck x = under(text);
        for (int l = 0; l < kindMore.length; l++) {
            x.life(kindMore[l], 0, l);
        }
        return x;
    }

    /** A sheet of a sort becomes these numbers. */
    static void fill(InsuredAgainstLuck x, int s, int sort, int... numbers) {
        x.sheet(s, sort, numbers.length);
        for (int i = 0; i < numbers.length; i++) {
            x.cell(s, i, numbers[i]);
        }
    }
}
