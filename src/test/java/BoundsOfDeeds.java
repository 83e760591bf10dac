/** Promises 10 to 18: what is done. */
final class BoundsOfDeeds {
    private BoundsOfDeeds() {
    }

    static void all(Sentences s) {
        step(s);
        stepRefused(s);
        stepFull(s);
        greet(s);
        greetUnknown(s);
        greetNot(s);
        greetFull(s);
        steam(s);
        steamUnknown(s);
        door(s);
        doorUnknown(s);
        night(s);
        nightNot(s);
        nightFull(s);
        envelope(s);
        envelopeUnknown(s);
        walk(s);
        walkUnknown(s);
        drift(s);
        driftOutside(s);
        driftNot(s);
        undo(s);
        undoNot(s);
    }

    private static void step(Sentences s) {
        s.of("Promise 10", "A STEP to a ROOM: BREATH.");
        GreetedMirrors x = Due.houseOf("h7 512;d0 6;m0 9;b9 9;");
        s.is("the first", x.step(6), 1);
        s.is("back", x.step(0), 2);
        x.greet(0, 9);
        s.is("behind a greeting", x.step(6), 12);
        s.is("one is there", x.told(5), 6);
    }

    private static void stepRefused(Sentences s) {
        s.of("Promise 10", "UNKNOWN, NOT: no DOOR there, it is shut;");
        GreetedMirrors x = Due.houseOf("h4 0;d0 1;d2 0;d1 2;");
        s.is("below", x.step(-1), Due.UNKNOWN);
        s.is("above", x.step(4), Due.UNKNOWN);
        s.is("no DOOR there", x.step(3), Due.NOT);
        s.is("to where one is", x.step(0), Due.NOT);
        x.door(0, true);
        s.is("it is shut", x.step(1), Due.NOT);
        s.is("BREATH so far", x.told(11), 0);
        s.is("one is where one was", x.told(5), 0);
        s.is("another one is not shut", x.step(2), 1);
        x.door(1, true);
        s.is("shut behind one", x.step(0), Due.NOT);
        s.is("the way round it, but for the last", x.step(1), 2);
        s.is("the last", x.step(0), Due.NOT);
        x.door(0, false);
        s.is("not shut any more", x.step(0), 3);
    }

    private static void stepFull(Sentences s) {
        s.of("Promise 10", "FULL: BREATH is above 90000.");
        // It cannot be so within 512 calls; behind them the same is asked of the program all the same.
        GreetedMirrors x = BoundsOfTerms.outOfBreath();
        x.undo();
        s.is("BREATH is 90000", x.told(11), 90000);
        s.is("a step then", x.step(1), 90001);
        s.is("above 90000", x.step(0), Due.FULL);
        s.is("one is where one was", x.told(5), 1);
        s.is("BREATH is as it was", x.told(11), 90001);
        x.undo();
        s.is("undone, one may again", x.step(1), 90001);
    }

    private static void greet(Sentences s) {
        s.of("Promise 11", "GREETED: 1 it is LIT by it, 0 not.");
        GreetedMirrors x = Due.houseOf("h1 1023;m0 9;m0 0;m0 1;o1 2;");
        s.is("by another NAME", x.greet(0, 8), 0);
        s.is("by its own", x.greet(0, 9), 1);
        s.is("it is LIT, not by it", x.greet(0, 9), 0);
        s.is("SPOILT by it", x.greet(2, 1), 0);
        s.is("SPOILT already", x.greet(1, 0), 0);
        x.night();
        s.is("the first hung one", x.greet(1, 0), 1);
        s.is("the later one then", x.greet(2, 1), 1);
        x.greet(0, 8);
        x.greet(0, 8);
        s.is("a third time by another NAME", x.greet(0, 8), 0);
        s.is("by its new one", x.greet(0, 8), 1);
    }

    private static void greetUnknown(Sentences s) {
        s.of("Promise 11", "UNKNOWN,");
        GreetedMirrors x = Due.houseOf("h1 1023;m0 0;");
        s.is("greet(-1, 0)", x.greet(-1, 0), Due.UNKNOWN);
        s.is("greet(1, 0)", x.greet(1, 0), Due.UNKNOWN);
        s.is("greet(0, -1)", x.greet(0, -1), Due.UNKNOWN);
        s.is("greet(0, 10)", x.greet(0, 10), Due.UNKNOWN);
        s.is("greet(0, 9)", x.greet(0, 9), 0);
        s.is("greet(0, 0)", x.greet(0, 0), 1);
    }

    private static void greetNot(Sentences s) {
        s.of("Promise 11", "NOT: one is not in its ROOM, does not KNOW that NAME;");
        GreetedMirrors x = Due.houseOf("h2 1;d0 1;m1 0;m0 9;");
        s.is("one is in the next ROOM", x.greet(0, 0), Due.NOT);
        s.is("its own NAME, not KNOWN", x.greet(1, 9), Due.NOT);
        s.is("another one, not KNOWN", x.greet(1, 8), Due.NOT);
        s.is("neither", x.greet(0, 9), Due.NOT);
        s.is("BREATH so far", x.told(11), 0);
        s.is("no count", x.mirror(1, 4), 0);
        s.is("nothing is LIT", x.told(7), 0);
        s.is("a NAME that one KNOWS", x.greet(1, 0), 0);
        x.envelope(9);
        s.is("KNOWN by an ENVELOPE", x.greet(1, 9), 1);
        x.step(1);
        s.is("in its ROOM", x.greet(0, 0), 1);
        s.is("not in the other's any more", x.greet(1, 9), Due.NOT);
    }

    private static void greetFull(Sentences s) {
        s.of("Promise 11", "FULL: BREATH is above 90000.");
        // It cannot be so within 512 calls; behind them the same is asked of the program all the same.
        GreetedMirrors x = BoundsOfTerms.outOfBreath();
        s.is("BREATH is 90001", x.told(11), 90001);
        s.is("above 90000", x.greet(0, 0), Due.FULL);
        s.is("GREETED once by NAME 0, ahead of it", x.mirror(0, 4), 1);
        s.is("BREATH is as it was", x.told(11), 90001);
        x.undo();
        s.is("BREATH is 90000", x.told(11), 90000);
        s.is("by a NAME of 9, then", x.greet(0, 9), 0);
        s.is("BREATH then", x.told(11), 90009);
        s.is("above it again", x.greet(0, 0), Due.FULL);
    }

    private static void steam(Sentences s) {
        s.of("Promise 12", "STEAM in a ROOM (is), or none: 1 there was, 0 not.");
        GreetedMirrors x = Due.houseOf("h7 0;");
        for (int room = 0; room < 7; room += 6) {
            s.is("none where there was none", x.steam(room, false), 0);
            s.is("STEAM", x.steam(room, true), 0);
            s.is("STEAM where there was", x.steam(room, true), 1);
        }
        s.is("in two ROOMS", x.told(9), 65);
        s.is("none", x.steam(6, false), 1);
        s.is("in one", x.told(9), 1);
        s.is("none any more", x.steam(6, false), 0);
    }

    private static void steamUnknown(Sentences s) {
        s.of("Promise 12", "UNKNOWN.");
        GreetedMirrors x = Due.houseOf("h2 0;");
        s.is("below", x.steam(-1, true), Due.UNKNOWN);
        s.is("above", x.steam(2, true), Due.UNKNOWN);
        s.is("a ROOM of other houses", x.steam(6, false), Due.UNKNOWN);
        s.is("without ROOMS", new GreetedMirrors().steam(0, true), Due.UNKNOWN);
        s.is("no STEAM", x.told(9), 0);
        s.is("the last", x.steam(1, true), 0);
    }

    private static void door(Sentences s) {
        s.of("Promise 13", "A DOOR is shut (is), or not: 1 it was, 0 not.");
        GreetedMirrors x = Due.houseOf(BoundsOfTerms.MOST);
        for (int d = 0; d < 8; d += 7) {
            s.is("not, it was not", x.door(d, false), 0);
            s.is("shut", x.door(d, true), 0);
            s.is("shut, it was", x.door(d, true), 1);
        }
        s.is("two are", x.told(10), 129);
        s.is("not", x.door(7, false), 1);
        s.is("one is", x.told(10), 1);
        s.is("not any more", x.door(7, false), 0);
    }

    private static void doorUnknown(Sentences s) {
        s.of("Promise 13", "UNKNOWN.");
        GreetedMirrors x = Due.houseOf("h2 0;d0 1;");
        s.is("below", x.door(-1, true), Due.UNKNOWN);
        s.is("above", x.door(1, true), Due.UNKNOWN);
        s.is("without DOORS", Due.houseOf("h2 0;").door(0, true), Due.UNKNOWN);
        s.is("none is shut", x.told(10), 0);
        s.is("the last", x.door(0, true), 0);
    }

    private static void night(Sentences s) {
        s.of("Promise 14", "A NIGHT: NIGHTS.");
        GreetedMirrors x = Due.houseOf("h1 0;");
        for (int nights = 1; nights <= 30; nights++) {
            s.is("night " + nights, x.night(), nights);
        }
        x.undo();
        s.is("one is undone", x.night(), 30);
    }

    private static void nightNot(Sentences s) {
        s.of("Promise 14", "NOT: no ROOMS;");
        GreetedMirrors x = new GreetedMirrors();
        s.is("of a new one", x.night(), Due.NOT);
        s.is("NIGHTS", x.told(12), 0);
        Due.tell(x, "h1 0;");
        x.house();
        s.is("one ROOM", x.night(), 1);
        x.house();
        s.is("of an empty house", x.night(), Due.NOT);
    }

    private static void nightFull(Sentences s) {
        s.of("Promise 14", "FULL: NIGHTS are above 9000.");
        // It cannot be so within 512 calls; behind them the same is asked of the program all the same.
        GreetedMirrors x = Due.houseOf("h1 1;m0 0;");
        for (int nights = 1; nights <= 9000; nights++) {
            x.night();
        }
        s.is("NIGHTS are 9000", x.told(12), 9000);
        s.is("a night then", x.night(), 9001);
        x.greet(0, 0);
        s.is("above 9000", x.night(), Due.FULL);
        s.is("what is LIT is so still", x.told(7), 1);
        s.is("NIGHTS are as they were", x.told(12), 9001);
    }

    private static void envelope(Sentences s) {
        s.of("Promise 15", "An ENVELOPE: NAMES that one KNOWS (a SET).");
        GreetedMirrors x = new GreetedMirrors();
        int known = 0;
        for (int name = 9; name >= 0; name--) {
            known |= 1 << name;
            s.is("NAME " + name, x.envelope(name), known);
            s.is("NAME " + name + " again", x.envelope(name), known);
        }
    }

    private static void envelopeUnknown(Sentences s) {
        s.of("Promise 15", "UNKNOWN.");
        GreetedMirrors x = new GreetedMirrors();
        s.is("below", x.envelope(-1), Due.UNKNOWN);
        s.is("above", x.envelope(10), Due.UNKNOWN);
        s.is("far above", x.envelope(32), Due.UNKNOWN);
        s.is("none is KNOWN", x.told(6), 0);
    }

    private static void walk(Sentences s) {
        s.of("Promise 16", "A PERSON walks: the ROOM he was in.");
        GreetedMirrors x = Due.houseOf(BoundsOfTerms.MOST);
        s.is("the first, to the last ROOM", x.walk(0, 6), 0);
        s.is("the last, to the first ROOM", x.walk(4, 0), 3);
        s.is("to where he is", x.walk(4, 0), 0);
        s.is("the first again", x.walk(0, 1), 6);
        s.is("one between is where he was", x.person(1), 6);
    }

    private static void walkUnknown(Sentences s) {
        s.of("Promise 16", "UNKNOWN.");
        GreetedMirrors x = Due.houseOf("h2 0;p1;p1;");
        s.is("no PERSON, below", x.walk(-1, 0), Due.UNKNOWN);
        s.is("no PERSON, above", x.walk(2, 0), Due.UNKNOWN);
        s.is("no ROOM, below", x.walk(0, -1), Due.UNKNOWN);
        s.is("no ROOM, above", x.walk(0, 2), Due.UNKNOWN);
        s.is("neither", x.walk(2, 2), Due.UNKNOWN);
        s.is("without PERSONS", Due.houseOf("h1 0;").walk(0, 0), Due.UNKNOWN);
        s.is("he is where he was", x.person(0), 1);
        s.is("the last of both", x.walk(1, 0), 1);
    }

    private static void drift(Sentences s) {
        s.of("Promise 17", "n evenings (1 .. 40) BY DRAWS: LIT MIRRORS (a SET).");
        // Without PERSONS and MIRRORS an evening takes two DRAWS by 0, one else.
        for (int n : new int[] {1, 2, 39, 40}) {
            GreetedMirrors x = Due.houseOf("h1 0;");
            s.is("drift(" + n + ")", x.drift(n), 0);
            int draws = 0;
            for (int evening = 0; evening < n; evening++) {
                draws += Sentences.draw(0, draws + 1, 3) == 0 ? 2 : 1;
            }
            s.is("THE SEED behind " + n + " evenings", x.seed(0), Sentences.seedAfter(0, draws));
            s.is("one undo for all of them", x.told(15), 1);
        }
        GreetedMirrors y = Due.houseOf("h1 1;m0 0;m0 0;m0 0;m0 0;m0 0;m0 0;m0 0;");
        s.is("all seven, in forty evenings and forty more", y.drift(40) | y.drift(40), 127);
        s.is("LIT ones, those of ahead of it, too", y.drift(1), 127);
    }

    private static void driftOutside(Sentences s) {
        s.of("Promise 17", "OUTSIDE,");
        GreetedMirrors x = Due.houseOf("h1 0;");
        s.is("drift(0)", x.drift(0), Due.OUTSIDE);
        s.is("drift(-1)", x.drift(-1), Due.OUTSIDE);
        s.is("drift(41)", x.drift(41), Due.OUTSIDE);
        s.is("no DRAW", x.seed(0), 0);
        s.is("nothing to undo", x.undo(), Due.NOT);
        s.is("without ROOMS", new GreetedMirrors().drift(41), Due.OUTSIDE);
    }

    private static void driftNot(Sentences s) {
        s.of("Promise 17", "NOT: no ROOMS.");
        GreetedMirrors x = new GreetedMirrors();
        s.is("drift(1)", x.drift(1), Due.NOT);
        s.is("drift(40)", x.drift(40), Due.NOT);
        s.is("no DRAW", x.seed(0), 0);
        Due.tell(x, "h1 0;");
        x.house();
        s.is("one ROOM", x.drift(1), 0);
        x.house();
        s.is("of an empty house", x.drift(1), Due.NOT);
    }

    private static void undo(Sentences s) {
        s.of("Promise 18", "The latest is undone: how many more can be.");
        GreetedMirrors x = Due.houseOf("h2 1;d0 1;m0 0;p0;");
        x.step(1);
        x.step(0);
        x.greet(0, 0);
        x.steam(1, true);
        x.door(0, true);
        x.envelope(9);
        x.walk(0, 1);
        x.night();
        x.drift(40);
        for (int more = 8; more >= 0; more--) {
            s.is(more + " more", x.undo(), more);
            s.is("told", x.told(15), more);
            s.is("NIGHTS then", x.told(12), more > 7 ? 1 : 0);
            s.is("his ROOM then", x.person(0), more > 6 ? 1 : 0);
            s.is("NAMES then", x.told(6), more > 5 ? 513 : 1);
            s.is("shut DOORS then", x.told(10), more > 4 ? 1 : 0);
            s.is("STEAM then", x.told(9), more > 3 && more <= 7 ? 2 : 0);
            s.is("LIT then", x.told(7), more > 2 && more <= 7 ? 1 : 0);
            s.is("one's ROOM then", x.told(5), more == 1 ? 1 : 0);
        }
    }

    private static void undoNot(Sentences s) {
        s.of("Promise 18", "NOT: none.");
        GreetedMirrors x = Due.houseOf("h1 1;m0 0;");
        s.is("nothing done", x.undo(), Due.NOT);
        x.greet(0, 0);
        s.is("the only one", x.undo(), 0);
        s.is("what was undone cannot be undone", x.undo(), Due.NOT);
        s.is("nothing is LIT", x.told(7), 0);
        s.is("of a new one", new GreetedMirrors().undo(), Due.NOT);
    }
}
