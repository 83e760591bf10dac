/** Promises 32 to 34: draws, images. */
public final class ImagesTest {
    private static final Due due = new Due("ImagesTest");

    public static void main(String[] args) {
        promise32();
        promise33();
        promise34();
        due.end();
    }

    private static void promise32() {
        GreetedMirrors x = new GreetedMirrors();
        due.is("32: it was 0", x.seed(2147483647), 0);
        due.is("32: the greatest", x.seed(3), 2147483647);
        due.is("32: below", x.seed(-1), Due.OUTSIDE);
        due.is("32: far below", x.seed(Integer.MIN_VALUE), Due.OUTSIDE);
        due.is("32: refused", x.seed(2147483647), 3);
        Due.tell(x, "h1 0;");
        x.house();
        x.drift(1);
        long drawn = (2147483647L * 1103515245L + 12345L) % 2147483648L;
        boolean steamed = drawn / 65536 % 3 == 0;
        due.is("32: drawn from the greatest", x.seed(0), steamed ? (drawn * 1103515245L + 12345L) % 2147483648L : drawn);
        due.is("32: seeds leave nothing to undo", x.told(15), 1);
    }

    private static void promise33() {
        GreetedMirrors x = Due.houseOf(Due.ROW);
        x.greet(0, 1);
        due.is("33: one to undo", x.told(15), 1);
        due.is("33: no such", x.keep(2), Due.UNKNOWN);
        for (int odd : Due.ODD) {
            due.is("33: keep(" + odd + ")", x.keep(odd), Due.UNKNOWN);
        }
        due.is("33: refused changes nothing", x.told(15), 1);
        due.is("33: kept", x.keep(1), 1);
        due.is("33: nothing to undo", x.told(15), 0);
        due.is("33: undo", x.undo(), Due.NOT);
        due.is("33: the other one is not kept by it", x.goBack(0), Due.NOT);
        due.is("33: without rooms", new GreetedMirrors().keep(0), 1);
    }

    private static void promise34() {
        GreetedMirrors x = Due.houseOf(Due.ROW);
        due.is("34: no such", x.goBack(2), Due.UNKNOWN);
        due.is("34: not kept", x.goBack(1), Due.NOT);
        for (int odd : Due.ODD) {
            due.is("34: goBack(" + odd + ")", x.goBack(odd), Due.UNKNOWN);
        }
        doMuch(x);
        x.seed(77);
        x.keep(0);
        String first = Due.sightOf(x);
        x.night();
        x.step(0);
        x.greet(0, 3);
        x.walk(2, 0);
        x.door(0, true);
        x.envelope(7);
        x.seed(5);
        x.keep(1);
        String second = Due.sightOf(x);
        x.ask(0, 1, true);
        x.write(0, 1);
        x.drift(20);
        due.is("34: back to the first", x.goBack(0), 1);
        due.same("34: all is as then", Due.sightOf(x), first);
        due.is("34: nothing to undo", x.told(15), 0);
        due.is("34: undo", x.undo(), Due.NOT);
        due.is("34: the seed as then", x.seed(9), 77);
        due.is("34: asked stays", x.told(13), 1);
        due.is("34: the book stays", x.told(14), 1);
        due.is("34: on to the second", x.goBack(1), 1);
        due.same("34: all is as then, too", Due.sightOf(x), second);
        due.is("34: its seed", x.seed(9), 5);
        x.night();
        x.goBack(0);
        due.same("34: an image stays as it was kept", Due.sightOf(x), first);
        x.greet(2, 3);
        x.keep(0);
        due.is("34: it is kept anew", x.goBack(0), 1);
        due.is("34: refused without a call to undo", x.undo(), Due.NOT);
    }

    private static void doMuch(GreetedMirrors x) {
        x.greet(0, 1);
        x.greet(0, 5);
        x.step(1);
        x.greet(2, 3);
        x.greet(1, 4);
        x.greet(1, 4);
        x.greet(1, 4);
        x.steam(2, true);
        x.door(2, true);
        x.walk(0, 2);
        x.envelope(8);
    }
}
