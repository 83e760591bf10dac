/** Promises 2 to 4: every short ending of many beginnings of a text, each answer compared with PlainMirrors. */
public final class TextsTest {
    private static final int LONGEST = 4;
    private static final char[] LETTERS = "hdmobp; 0129x".toCharArray();
    /** Each stops where a fault of another kind comes next. */
    private static final String[] BEGINNINGS = {"", "h", "h2", "h2 ", "h2 3", "h2 3;", "h3 3;d", "h3 3;d0", "h3 3;d0 ",
        "h3 3;d0 1;d1 ", "h3 3;d0 1;d0 1;", "h2 0;m", "h2 0;m1", "h2 0;m1 ", "h2 0;o",
        "h2 0;m1 2;m1 1;m0 3;m0 4;m0 5;o0 1;o", "h2 0;m1 2;m1 1;m0 3;m0 4;m0 5;o0 1;o2 ",
        "h2 0;b1 3;b", "h2 0;b1 3;b2", "h2 0;b1 3;b2 ", "h2 0;p0;p0;p0;p0;p", "h2 0;p0;p0;p0;p0;p0;",
        "h2 0;m0 0;m0 0;m0 0;m0 0;m0 0;m0 0;m", "h2 0;m0 0;m0 0;m0 0;m0 0;m0 0;m0 0;m0 0;",
        "h5 0;d0 1;d0 2;d0 3;d0 4;d1 2;d1 3;d1 4;d", "h5 0;d0 1;d0 2;d0 3;d0 4;d1 2;d1 3;d1 4;d2 3;"};

    private static final Due due = new Due("TextsTest");

    // One object for all texts, so that what a text leaves behind would be seen in the next one.
    private final GreetedMirrors real = new GreetedMirrors();
    private final PlainMirrors plain = new PlainMirrors();

    public static void main(String[] args) {
        TextsTest test = new TextsTest();
        for (String beginning : BEGINNINGS) {
            test.endings(beginning, LONGEST);
        }
        due.end();
    }

    private void endings(String text, int more) {
        compare(text);
        for (int k = 0; k < LETTERS.length && more > 0; k++) {
            endings(text + LETTERS[k], more - 1);
        }
    }

    private void compare(String text) {
        for (int i = 0; i < text.length(); i++) {
            real.feed(text.charAt(i));
            plain.call("feed", text.charAt(i), 0, false);
        }
        due.is("house() of [" + text + "]", real.house(), plain.call("house", 0, 0, false));
        due.is("fault() of [" + text + "]", real.fault(), plain.call("fault", 0, 0, false));
    }
}
