/** Promises 19 to 24: tried. */
final class BoundsOfTried {
    private BoundsOfTried() {
    }

    static void all(Sentences s) {
        round(s);
        roundNone(s);
        roundUnknown(s);
        cannot(s);
        steps(s);
        stepsUnknown(s);
        mostSeen(s);
        mostSeenNone(s);
        mostSeenOutside(s);
        learn(s);
        steamed(s);
        steamedOutside(s);
    }

    private static void round(Sentences s) {
        s.of("Promise 19", "ROUND: i = NONE BREATH, else the i-th MIRROR;");
        GreetedMirrors x = Due.houseOf("h2 513;d0 1;m1 0;m0 9;b9 9;");
        s.is("BREATH", x.round(3, -1), 1 + 1 + 9);
        s.is("the first", x.round(3, 0), 1);
        s.is("the second, and last", x.round(3, 1), 0);
        s.is("BREATH of none", x.round(0, -1), 0);
        GreetedMirrors y = Due.houseOf(BoundsOfTerms.MOST);
        s.is("BREATH of all seven", y.round(127, -1), 24);
        for (int i = 0; i < 7; i++) {
            s.is("round(127, " + i + ")", y.round(127, i), i);
        }
    }

    private static void roundNone(Sentences s) {
        s.of("Promise 19", "NONE.");
        GreetedMirrors x = Due.houseOf("h2 1;m0 0;m0 0;m1 0;");
        s.is("behind the last", x.round(3, 2), Due.NONE);
        s.is("of none", x.round(0, 0), Due.NONE);
        for (int i : Sentences.beyond(2)) {
            s.is("round(3, " + i + ")", i == -1 ? Due.NONE : x.round(3, i), Due.NONE);
            s.is("round(4, " + i + "), that cannot be", x.round(4, i), Due.NONE);
        }
        s.is("that cannot be: BREATH", x.round(7, Due.NONE), Due.NONE);
        s.is("that cannot be: the first", x.round(7, 0), Due.NONE);
        x.greet(0, 0);
        s.is("the LIT one is none of them", x.round(3, 1), Due.NONE);
    }

    private static void roundUnknown(Sentences s) {
        s.of("Promise 19", "UNKNOWN.");
        GreetedMirrors x = Due.houseOf("h1 1;m0 0;m0 0;");
        s.is("round(4, NONE)", x.round(4, Due.NONE), Due.UNKNOWN);
        s.is("round(4 + 3, 0)", x.round(7, 0), Due.UNKNOWN);
        s.is("round(-1, NONE)", x.round(-1, Due.NONE), Due.UNKNOWN);
        s.is("round() of the least number", x.round(Integer.MIN_VALUE, Due.NONE), Due.UNKNOWN);
        s.is("round() of the greatest", x.round(Integer.MAX_VALUE, Due.NONE), Due.UNKNOWN);
        s.is("round() of the least and both", x.round(Integer.MIN_VALUE + 3, 1), Due.UNKNOWN);
        s.is("bits of LIT ones are known", x.greet(0, 0) + x.greet(1, 0) + x.round(3, Due.NONE), 2);
        s.is("bits of none, all LIT", x.round(7, Due.NONE), Due.UNKNOWN);
        s.is("without MIRRORS", new GreetedMirrors().round(1, Due.NONE), Due.UNKNOWN);
    }

    private static void cannot(Sentences s) {
        s.of("Promise 20", "CANNOT.");
        s.is("without ROOMS", new GreetedMirrors().cannot(), 0);
        GreetedMirrors x = Due.houseOf(BoundsOfTerms.MOST);
        s.is("the later ones of three pairs", x.cannot(), 2 + 8 + 32);
        x.door(5, true);
        x.door(6, true);
        s.is("the last one, too", x.cannot(), 2 + 8 + 32 + 64);
        x.greet(0, 0);
        x.greet(1, 1);
        x.greet(3, 3);
        s.is("two LIT, two SPOILT", x.cannot(), 4 + 8 + 32 + 64);
    }

    private static void steps(Sentences s) {
        s.of("Promise 21", "STEPS; NONE.");
        GreetedMirrors x = Due.houseOf("h7 0;d0 1;d1 2;d2 3;d3 4;d4 5;");
        s.is("to where one is", x.steps(0), 0);
        s.is("to the next", x.steps(1), 1);
        s.is("to the farthest", x.steps(5), 5);
        s.is("no DOOR", x.steps(6), Due.NONE);
        x.door(0, true);
        s.is("a shut one", x.steps(1), Due.NONE);
        s.is("to where one is, with all shut", x.steps(0), 0);
    }

    private static void stepsUnknown(Sentences s) {
        s.of("Promise 21", "UNKNOWN.");
        GreetedMirrors x = Due.houseOf("h2 0;d0 1;");
        s.is("below", x.steps(-1), Due.UNKNOWN);
        s.is("the last", x.steps(1), 1);
        s.is("above", x.steps(2), Due.UNKNOWN);
        s.is("without ROOMS", new GreetedMirrors().steps(0), Due.UNKNOWN);
    }

    private static void mostSeen(Sentences s) {
        s.of("Promise 22", "MOST SEEN: what = 0 the ROOM, 1 how many;");
        GreetedMirrors x = Due.houseOf("h7 0;d5 6;m6 0;p6;p5;p5;p6;p5;");
        s.is("the last ROOM", x.mostSeen(0), 6);
        s.is("all five", x.mostSeen(1), 5);
        GreetedMirrors y = Due.houseOf("h1 0;m0 0;");
        s.is("the first ROOM", y.mostSeen(0), 0);
        s.is("nobody", y.mostSeen(1), 0);
    }

    private static void mostSeenNone(Sentences s) {
        s.of("Promise 22", "NONE.");
        s.is("without ROOMS: the ROOM", new GreetedMirrors().mostSeen(0), Due.NONE);
        s.is("without ROOMS: how many", new GreetedMirrors().mostSeen(1), Due.NONE);
        GreetedMirrors x = Due.houseOf("h1 0;p0;");
        s.is("without MIRRORS: the ROOM", x.mostSeen(0), Due.NONE);
        s.is("without MIRRORS: how many", x.mostSeen(1), Due.NONE);
        GreetedMirrors y = Due.houseOf("h1 0;m0 0;p0;");
        y.steam(0, true);
        s.is("STEAM in the only one: the ROOM", y.mostSeen(0), Due.NONE);
        s.is("STEAM in the only one: how many", y.mostSeen(1), Due.NONE);
    }

    private static void mostSeenOutside(Sentences s) {
        s.of("Promise 22", "OUTSIDE.");
        GreetedMirrors x = Due.houseOf("h1 0;m0 0;p0;");
        s.is("mostSeen(-1)", x.mostSeen(-1), Due.OUTSIDE);
        s.is("mostSeen(2)", x.mostSeen(2), Due.OUTSIDE);
        s.is("without ROOMS", new GreetedMirrors().mostSeen(2), Due.OUTSIDE);
    }

    private static void learn(Sentences s) {
        s.of("Promise 23", "LEARN.");
        s.is("without ROOMS", new GreetedMirrors().learn(), 0);
        GreetedMirrors x = Due.houseOf("h7 0;m0 0;m0 1;m0 2;m0 3;m0 4;m6 8;m6 9;o0 1;");
        s.is("seven", x.learn(), 31 + 256 + 512);
        for (int name : new int[] {0, 1, 2, 3, 4, 8}) {
            x.envelope(name);
        }
        s.is("the last", x.learn(), 512);
        x.greet(1, 1);
        x.greet(0, 9);
        s.is("SPOILT by a NAME that one KNOWS", x.learn(), 512);
        x.envelope(9);
        s.is("none", x.learn(), 0);
    }

    private static void steamed(Sentences s) {
        s.of("Promise 24", "STEAMED (q 0 .. 100).");
        GreetedMirrors x = new GreetedMirrors();
        s.is("q 0", x.steamed(60, 0), 1000000000);
        s.is("q 100", x.steamed(1, 100), 0);
        s.is("q 100, no ROOM", x.steamed(0, 100), 1000000000);
        s.is("q 1", x.steamed(2, 1), 980100000);
        s.is("q 99", x.steamed(4, 99), 10);
        s.is("q 99, cut", x.steamed(5, 99), 0);
        s.is("cut at each, not at the end: 941480149.4", x.steamed(6, 1), 941480148);
    }

    private static void steamedOutside(Sentences s) {
        s.of("Promise 24", "OUTSIDE.");
        GreetedMirrors x = new GreetedMirrors();
        s.is("steamed(-1, 0)", x.steamed(-1, 0), Due.OUTSIDE);
        s.is("steamed(61, 0)", x.steamed(61, 0), Due.OUTSIDE);
        s.is("steamed(0, -1)", x.steamed(0, -1), Due.OUTSIDE);
        s.is("steamed(0, 101)", x.steamed(0, 101), Due.OUTSIDE);
        s.is("both", x.steamed(61, 101), Due.OUTSIDE);
        s.is("the ends are not", x.steamed(60, 100), 0);
    }
}
