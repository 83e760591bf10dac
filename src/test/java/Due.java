/** Counts answers that are as due, and tells those that are not. */
final class Due {
    static final int NONE = -1;
    static final int UNKNOWN = -1000000001;
    static final int OUTSIDE = -1000000002;
    static final int NOT = -1000000003;
    static final int FULL = -1000000004;

    /** Four rooms in a row; mirrors 1 and 2 hang opposite; name 7 is not known. */
    static final String ROW = "h4 63;d0 1;d1 2;d2 3;m0 1;m1 2;m1 3;m2 4;m2 4;m3 7;o1 2;b2 5;b4 3;p0;p1;p3;";
    /** Numbers that are far from all that there is. */
    static final int[] ODD = {-1, -2, -7, 10, 31, 32, 33, 64, 1 << 20, Integer.MAX_VALUE, Integer.MIN_VALUE, Integer.MIN_VALUE + 1};

    private final String title;
    private int passed;
    private int failed;

    Due(String title) {
        this.title = title;
    }

    void is(String what, long got, long want) {
        if (got == want) {
            passed++;
        } else {
            failed++;
            System.out.println(title + ": " + what + " answered " + got + ", due is " + want);
        }
    }

    /** Says how it went; with exit code 1, if something was not as due. */
    void end() {
        System.out.println(title + ": " + passed + " answers as due, " + failed + " not");
        if (failed > 0) {
            System.exit(1);
        }
    }

    static void tell(GreetedMirrors x, String text) {
        for (int i = 0; i < text.length(); i++) {
            x.feed(text.charAt(i));
        }
    }

    static GreetedMirrors houseOf(String text) {
        GreetedMirrors x = new GreetedMirrors();
        tell(x, text);
        if (x.house() < 0) {
            throw new IllegalStateException("a fault at " + x.fault() + " in " + text);
        }
        return x;
    }

    /** All that the calls without effect tell of section 2, in one text. */
    static String sightOf(GreetedMirrors x) {
        StringBuilder sight = new StringBuilder();
        for (int what = 5; what <= 12; what++) {
            sight.append(x.told(what)).append(' ');
        }
        int mirrors = x.told(2);
        for (int m = 0; m < mirrors; m++) {
            for (int what = 0; what < 5; what++) {
                sight.append(x.mirror(m, what)).append(' ');
            }
        }
        int persons = x.told(3);
        for (int p = 0; p < persons; p++) {
            sight.append(x.person(p)).append(' ');
        }
        return sight.toString();
    }

    void same(String what, String got, String want) {
        is(what + " [" + got + "] against [" + want + "]", got.equals(want) ? 1 : 0, 1);
    }
}
