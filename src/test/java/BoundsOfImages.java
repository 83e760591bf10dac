/** Promises 32 to 34: draws, images. */
final class BoundsOfImages {
    private BoundsOfImages() {
    }

    static void all(Sentences s) {
        seed(s);
        seedOutside(s);
        keep(s);
        keepUnknown(s);
        goBack(s);
        goBackRefused(s);
    }

    private static void seed(Sentences s) {
        s.of("Promise 32", "THE SEED becomes v (0 .. 2147483647): what it was.");
        GreetedMirrors x = new GreetedMirrors();
        s.is("0 at first", x.seed(0), 0);
        s.is("0 again", x.seed(2147483647), 0);
        s.is("the greatest", x.seed(1), 2147483647);
        s.is("1", x.seed(1), 1);
        Due.tell(x, "h1 0;");
        x.house();
        x.seed(2147483647);
        x.drift(1);
        int draws = Sentences.draw(2147483647, 1, 3) == 0 ? 2 : 1;
        s.is("drawn from the greatest", x.seed(0), Sentences.seedAfter(2147483647, draws));
    }

    private static void seedOutside(Sentences s) {
        s.of("Promise 32", "OUTSIDE.");
        GreetedMirrors x = new GreetedMirrors();
        x.seed(7);
        s.is("seed(-1)", x.seed(-1), Due.OUTSIDE);
        s.is("seed() of the least number", x.seed(Integer.MIN_VALUE), Due.OUTSIDE);
        s.is("it is as it was", x.seed(0), 7);
    }

    private static void keep(Sentences s) {
        s.of("Promise 33", "IMAGE i becomes what is so (nothing can be undone then): 1.");
        GreetedMirrors x = Due.houseOf("h1 1;m0 0;");
        x.night();
        x.greet(0, 0);
        x.ask(0, 0, true);
        x.write(0, 0);
        s.is("the first", x.keep(0), 1);
        s.is("what was ASKED and THE BOOK are as they were", x.told(13) + x.told(14), 2);
        s.is("nothing can be undone", x.told(15), 0);
        s.is("undo()", x.undo(), Due.NOT);
        x.night();
        s.is("the other", x.keep(1), 1);
        s.is("nothing can be undone, either", x.undo(), Due.NOT);
        x.goBack(0);
        s.is("what was so: LIT", x.told(7), 1);
        s.is("what was so: NIGHTS", x.told(12), 1);
        x.night();
        x.night();
        s.is("the first again", x.keep(0), 1);
        x.night();
        x.goBack(0);
        s.is("what was so then", x.told(12), 3);
        x.goBack(1);
        s.is("the other is as it was", x.told(12), 2);
        s.is("without ROOMS", new GreetedMirrors().keep(1), 1);
        // More than can be kept to undo, ahead of it and behind.
        GreetedMirrors y = Due.houseOf("h1 0;");
        for (int k = 0; k < 33; k++) {
            y.night();
        }
        y.keep(0);
        y.night();
        s.is("only what was done since then", y.undo(), 0);
        s.is("no more than that", y.undo(), Due.NOT);
        s.is("NIGHTS", y.told(12), 33);
    }

    private static void keepUnknown(Sentences s) {
        s.of("Promise 33", "UNKNOWN.");
        GreetedMirrors x = Due.houseOf("h1 0;");
        x.night();
        s.is("keep(-1)", x.keep(-1), Due.UNKNOWN);
        s.is("keep(2)", x.keep(2), Due.UNKNOWN);
        s.is("what can be undone is so still", x.undo(), 0);
        s.is("IMAGE 0 is not kept by it", x.goBack(0), Due.NOT);
        s.is("IMAGE 1 is not kept by it", x.goBack(1), Due.NOT);
    }

    private static void goBack(Sentences s) {
        s.of("Promise 34", "What is so becomes IMAGE i (nothing can be undone then): 1.");
        GreetedMirrors x = Due.houseOf(Due.ROW);
        x.greet(0, 1);
        x.keep(1);
        String kept = Due.sightOf(x);
        x.step(1);
        x.greet(1, 9);
        x.night();
        x.ask(0, 1, true);
        x.write(0, 1);
        s.is("goBack(1)", x.goBack(1), 1);
        s.is("what was ASKED is no part of it", x.told(13), 1);
        s.is("nor is THE BOOK", x.told(14), 1);
        s.same("what is so", Due.sightOf(x), kept);
        s.is("nothing can be undone", x.told(15), 0);
        s.is("undo()", x.undo(), Due.NOT);
        x.night();
        s.is("a second time", x.goBack(1), 1);
        s.same("what is so then", Due.sightOf(x), kept);
        s.is("undo() then", x.undo(), Due.NOT);
        x.door(0, true);
        x.keep(0);
        s.is("goBack(0)", x.goBack(0), 1);
        s.is("as it was kept", x.told(10), 1);
        s.is("goBack(1) again", x.goBack(1), 1);
        s.is("as that was kept", x.told(10), 0);
    }

    private static void goBackRefused(Sentences s) {
        s.of("Promise 34", "UNKNOWN, NOT: it was not kept.");
        GreetedMirrors x = Due.houseOf("h1 0;");
        x.night();
        s.is("goBack(-1)", x.goBack(-1), Due.UNKNOWN);
        s.is("goBack(2)", x.goBack(2), Due.UNKNOWN);
        s.is("goBack(0)", x.goBack(0), Due.NOT);
        s.is("goBack(1)", x.goBack(1), Due.NOT);
        s.is("NIGHTS", x.told(12), 1);
        s.is("what can be undone is so still", x.undo(), 0);
        x.keep(1);
        s.is("the one that was kept", x.goBack(1), 1);
        s.is("the other one was not", x.goBack(0), Due.NOT);
        Due.tell(x, "h1 0;");
        x.house();
        s.is("in the next house", x.goBack(1), Due.NOT);
        s.is("of a new one", new GreetedMirrors().goBack(0), Due.NOT);
    }
}
