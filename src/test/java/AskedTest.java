/** Promises 25 to 31: what was asked. */
public final class AskedTest {
    private static final Due due = new Due("AskedTest");

    public static void main(String[] args) {
        promise25();
        promise26();
        promise26Unlike();
        promise27();
        promise28();
        promise29();
        promise30();
        promise31();
        due.end();
    }

    private static void promise25() {
        GreetedMirrors x = Due.houseOf(Due.ROW);
        due.is("25: no such mirror", x.ask(6, 0, true), Due.UNKNOWN);
        due.is("25: no such name", x.ask(0, 10, true), Due.UNKNOWN);
        for (int odd : Due.ODD) {
            due.is("25: ask(" + odd + ", 0)", x.ask(odd, 0, false), Due.UNKNOWN);
            due.is("25: ask(0, " + odd + ")", x.ask(0, odd, false), Due.UNKNOWN);
        }
        for (int k = 1; k <= 8; k++) {
            due.is("25: how much", x.ask(0, 9, false), k);
        }
        due.is("25: full", x.ask(0, 9, false), Due.FULL);
        due.is("25: unknown before full", x.ask(6, 9, false), Due.UNKNOWN);
        due.is("25: eight", x.told(13), 8);
        due.is("25: no rooms", new GreetedMirrors().ask(0, 0, true), Due.UNKNOWN);
    }

    private static void pairs(GreetedMirrors x, int unchanged, int... codes) {
        due.is("26: none changed", x.changed(-2), unchanged);
        due.is("26: how many pairs", x.changed(-1), codes.length);
        for (int i = 0; i < codes.length; i++) {
            due.is("26: changed(" + i + ")", x.changed(i), codes[i]);
        }
        due.is("26: behind the last", x.changed(codes.length), Due.NONE);
    }

    private static void promise26() {
        pairs(new GreetedMirrors(), 1);
        GreetedMirrors x = Due.houseOf("h1 7;m0 1;m0 2;m0 3;");
        pairs(x, 1, 1, 2, 12);
        x.ask(0, 1, true);
        pairs(x, 1, 12);
        x.ask(1, 2, false);
        pairs(x, 0, 12);
        x.ask(2, 2, true);
        pairs(x, 0, 12);
        x.ask(2, 3, true);
        pairs(x, 0);
        for (int odd : Due.ODD) {
            int want = odd == -2 || odd == -1 ? 0 : Due.NONE;
            due.is("26: changed(" + odd + ")", x.changed(odd), want);
        }
        due.is("26: below these", Due.houseOf(Due.ROW).changed(-3), Due.NONE);
        due.is("26: the least i", Due.houseOf(Due.ROW).changed(Integer.MIN_VALUE), Due.NONE);
    }

    private static void promise26Unlike() {
        GreetedMirrors x = Due.houseOf("h1 1023;m0 4;m0 4;m0 5;");
        pairs(x, 1, 2, 12);
        x.ask(1, 5, false);
        pairs(x, 1, 2);
        x.greet(2, 4);
        x.greet(2, 4);
        x.greet(2, 4);
        due.is("26: it has another name now", x.mirror(2, 1), 4);
        pairs(x, 1, 2);
        x.tear();
        pairs(x, 1, 2, 12);
        GreetedMirrors all = Due.houseOf("h1 0;m0 0;m0 1;m0 2;m0 3;m0 4;m0 5;m0 6;");
        pairs(all, 1, 1, 2, 3, 4, 5, 6, 12, 13, 14, 15, 16, 23, 24, 25, 26, 34, 35, 36, 45, 46, 56);
    }

    private static void promise27() {
        due.is("27: no mirrors", new GreetedMirrors().askNext(), Due.NONE);
        due.is("27: one mirror", Due.houseOf("h1 0;m0 3;").askNext(), Due.NONE);
        due.is("27: like names alone", Due.houseOf("h1 0;m0 3;m0 3;").askNext(), Due.NONE);
        GreetedMirrors x = Due.houseOf("h1 0;m0 5;m0 2;");
        // The pair and none changed: mirror 0 answers to 2 only if it was changed.
        due.is("27: one pair and none", x.askNext(), 2);
        x.ask(0, 2, true);
        due.is("27: one pair alone", x.askNext(), Due.NONE);
        x.ask(0, 5, true);
        due.is("27: nothing fits", x.askNext(), Due.NONE);
        GreetedMirrors y = Due.houseOf("h1 0;m0 9;m0 8;m0 7;");
        // Four guesses (none, 0 1, 0 2, 1 2): by its own name mirror 0 parts them two and two.
        due.is("27: two and two", y.askNext(), 9);
        y.ask(0, 9, true);
        due.is("27: of like ones the least", y.askNext(), 17);
        GreetedMirrors z = Due.houseOf(Due.ROW);
        z.ask(0, 1, true);
        z.ask(1, 2, false);
        due.is("27: four pairs", z.askNext(), 14);
        due.is("27: name 0", Due.houseOf("h1 0;m0 0;m0 1;").askNext(), 0);
        due.is("27: a name that none has lights none", Due.houseOf("h1 0;m0 8;m0 9;").askNext(), 8);
    }

    private static void promise28() {
        GreetedMirrors x = Due.houseOf(Due.ROW);
        due.is("28: nothing asked", x.called(2), 1023);
        x.ask(2, 3, false);
        due.is("28: not that", x.called(2), 1015);
        x.ask(2, 9, false);
        due.is("28: nor that", x.called(2), 503);
        due.is("28: of another one nothing", x.called(1), 1023);
        x.ask(2, 4, true);
        due.is("28: that alone", x.called(2), 16);
        x.ask(2, 4, false);
        due.is("28: none", x.called(2), 0);
        x.ask(5, 0, true);
        x.ask(5, 1, true);
        due.is("28: two at once", x.called(5), 0);
        due.is("28: no such", x.called(6), Due.UNKNOWN);
        for (int odd : Due.ODD) {
            due.is("28: called(" + odd + ")", x.called(odd), Due.UNKNOWN);
        }
        x.tear();
        due.is("28: nothing asked any more", x.called(2), 1023);
    }

    private static void promise29() {
        GreetedMirrors x = Due.houseOf(Due.ROW);
        due.is("29: no such mirror", x.write(6, 0), Due.UNKNOWN);
        due.is("29: no such name", x.write(0, 10), Due.UNKNOWN);
        for (int odd : Due.ODD) {
            due.is("29: write(" + odd + ", 0)", x.write(odd, 0), Due.UNKNOWN);
            due.is("29: write(0, " + odd + ")", x.write(0, odd), Due.UNKNOWN);
        }
        for (int k = 1; k <= 15; k++) {
            due.is("29: how many", x.write(5, 9), k);
        }
        due.is("29: full", x.write(5, 9), Due.FULL);
        due.is("29: unknown before full", x.write(5, 10), Due.UNKNOWN);
        due.is("29: fifteen", x.told(14), 15);
    }

    private static void promise30() {
        GreetedMirrors x = Due.houseOf(Due.ROW);
        due.is("30: nothing", x.tear(), 0);
        x.ask(0, 1, true);
        x.ask(0, 2, true);
        x.write(0, 9);
        due.is("30: both", x.tear(), 3);
        due.is("30: nothing asked", x.told(13), 0);
        due.is("30: no book", x.told(14), 0);
        due.is("30: nothing wrong", x.judge(), Due.NONE);
        due.is("30: all fits", x.changed(-1), 14);
        due.is("30: again", x.tear(), 0);
        due.is("30: a first one", x.ask(1, 1, true), 1);
        due.is("30: a first entry", x.write(1, 1), 1);
    }

    private static void promise31() {
        due.is("31: no book", new GreetedMirrors().judge(), Due.NONE);
        GreetedMirrors x = Due.houseOf("h1 1023;m0 1;m0 2;m0 3;");
        x.write(2, 4);
        due.is("31: the first entry", x.judge(), 0);
        x.tear();
        x.write(2, 3);
        x.write(0, 1);
        due.is("31: all is so", x.judge(), Due.NONE);
        x.write(1, 4);
        x.write(2, 9);
        due.is("31: the first that is otherwise", x.judge(), 2);
        x.greet(1, 4);
        x.greet(1, 4);
        due.is("31: twice is not enough", x.judge(), 2);
        x.greet(1, 4);
        due.is("31: as it is now", x.judge(), 3);
        x.greet(0, 6);
        x.greet(0, 6);
        x.greet(0, 6);
        due.is("31: the entry, not the mirror", x.judge(), 1);
        x.undo();
        due.is("31: undone", x.judge(), 3);
    }
}
