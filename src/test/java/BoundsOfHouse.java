/** Promises 1 to 9: the house. */
final class BoundsOfHouse {
    private BoundsOfHouse() {
    }

    static void all(Sentences s) {
        noRooms(s);
        feedLetters(s);
        feedHowMany(s);
        feedRefused(s);
        houseEmptiesTheText(s);
        houseIsNew(s);
        houseHasNothingOfThoseAheadOfIt(s);
        houseForgets(s);
        houseTheSeedStays(s);
        houseHowManyMirrors(s);
        houseFault(s);
        houseAllElseIsAsItWas(s);
        faultPlace(s);
        faultNone(s);
        toldNothing(s);
        toldMost(s);
        toldOutside(s);
        mirrorNone(s);
        mirrorCount(s);
        mirrorRefused(s);
        doorOf(s);
        doorOfRefused(s);
        person(s);
        sees(s);
        seesUnknown(s);
    }

    private static void noRooms(Sentences s) {
        s.of("Promise 1", "No ROOMS.");
        GreetedMirrors x = new GreetedMirrors();
        for (int what = 0; what <= 15; what++) {
            s.is("told(" + what + ")", x.told(what), 0);
        }
        s.is("fault()", x.fault(), Due.NONE);
        s.is("mirror(0, 0)", x.mirror(0, 0), Due.UNKNOWN);
        s.is("doorOf(0, 0)", x.doorOf(0, 0), Due.UNKNOWN);
        s.is("person(0)", x.person(0), Due.UNKNOWN);
        s.is("step(0)", x.step(0), Due.UNKNOWN);
        s.is("steam(0)", x.steam(0, true), Due.UNKNOWN);
        s.is("steps(0)", x.steps(0), Due.UNKNOWN);
        s.is("night()", x.night(), Due.NOT);
        s.is("drift(1)", x.drift(1), Due.NOT);
        s.is("undo()", x.undo(), Due.NOT);
        s.is("round(0, NONE)", x.round(0, Due.NONE), 0);
        s.is("round(0, 0)", x.round(0, 0), Due.NONE);
        s.is("cannot()", x.cannot(), 0);
        s.is("mostSeen(0)", x.mostSeen(0), Due.NONE);
        s.is("mostSeen(1)", x.mostSeen(1), Due.NONE);
        s.is("learn()", x.learn(), 0);
        s.is("changed(NONE)", x.changed(Due.NONE), 0);
        s.is("changed(-2)", x.changed(-2), 1);
        s.is("changed(0)", x.changed(0), Due.NONE);
        s.is("askNext()", x.askNext(), Due.NONE);
        s.is("judge()", x.judge(), Due.NONE);
        s.is("tear()", x.tear(), 0);
        s.is("seed(1)", x.seed(1), 0);
        s.is("goBack(0)", x.goBack(0), Due.NOT);
        s.is("goBack(1)", x.goBack(1), Due.NOT);
        s.is("envelope(0)", x.envelope(0), 1);
    }

    private static void feedLetters(Sentences s) {
        s.of("Promise 2", "One letter (a number 0 .. 255) comes behind THE TEXT:");
        GreetedMirrors x = new GreetedMirrors();
        s.is("below", x.feed(-1), Due.OUTSIDE);
        s.is("the least", x.feed(0), 1);
        s.is("the greatest", x.feed(255), 2);
        s.is("above", x.feed(256), Due.OUTSIDE);
        s.is("'h' and 256", x.feed('h' + 256), Due.OUTSIDE);
        s.is("the first of them is the first of the text", x.house(), -11);
        s.is("there", x.fault(), 0);
        Due.tell(x, "h1 0;");
        x.feed(255);
        x.house();
        s.is("the last of them is behind the text", x.fault(), 5);
    }

    private static void feedHowMany(Sentences s) {
        s.of("Promise 2", "how many it has.");
        GreetedMirrors x = new GreetedMirrors();
        for (int n = 1; n <= 240; n++) {
            s.is("letter " + n, x.feed(' '), n);
        }
        x.house();
        s.is("the first one behind house()", x.feed('h'), 1);
    }

    private static void feedRefused(Sentences s) {
        s.of("Promise 2", "OUTSIDE, FULL (240).");
        GreetedMirrors x = new GreetedMirrors();
        Due.tell(x, "h1 0;m0 0;" + " ".repeat(229));
        s.is("the 240th", x.feed(' '), 240);
        s.is("the 241st", x.feed(' '), Due.FULL);
        s.is("a 242nd", x.feed('x'), Due.FULL);
        s.is("out of bounds", x.feed(256), Due.OUTSIDE);
        s.is("240 letters", x.told(4), 240);
        s.is("the text is as it was", x.house(), 1);
        s.is("it is not full any more", x.feed('h'), 1);
    }

    private static void houseEmptiesTheText(Sentences s) {
        s.of("Promise 3", "THE TEXT (it is empty then, with a FAULT, too) becomes THE HOUSE");
        GreetedMirrors x = new GreetedMirrors();
        Due.tell(x, "h1 0;m0 0;");
        x.house();
        s.is("letters", x.told(4), 0);
        Due.tell(x, "h1 0;m0 0;m0 0;x");
        x.house();
        s.is("letters, with a FAULT", x.told(4), 0);
        s.is("house() of an empty text", x.house(), 0);
        s.is("no ROOMS by it", x.told(0), 0);
    }

    private static void houseIsNew(Sentences s) {
        s.of("Promise 3", "(NIGHT 0, nothing LIT, no STEAM, no DOOR shut;");
        GreetedMirrors x = Due.houseOf(BoundsOfTerms.MOST);
        x.night();
        x.greet(1, 1);
        x.greet(2, 2);
        x.greet(4, 9);
        x.steam(6, true);
        x.door(7, true);
        x.walk(0, 5);
        x.step(1);
        s.is("NIGHT, ahead of it", x.told(12), 1);
        s.is("LIT, ahead of it", x.told(7), 4);
        s.is("SPOILT, ahead of it", x.told(8), 3);
        Due.tell(x, BoundsOfTerms.MOST);
        x.house();
        for (int what = 7; what <= 12; what++) {
            s.is("told(" + what + ")", x.told(what), 0);
        }
        s.same("all of it", Due.sightOf(x), Due.sightOf(Due.houseOf(BoundsOfTerms.MOST)));
    }

    private static void houseHasNothingOfThoseAheadOfIt(Sentences s) {
        s.of("Promise 3", "becomes THE HOUSE");
        GreetedMirrors x = Due.houseOf(BoundsOfTerms.MOST);
        Due.tell(x, BoundsOfTerms.MOST);
        x.house();
        for (int k = 0; k < 3; k++) {
            Due.tell(x, "h2 2;m0 1;m0 1;");
            x.house();
            int[] want = {2, 0, 2, 0, 0, 0, 2, 0, 0, 0, 0, 0, 0, 0, 0, 0};
            for (int what = 0; what <= 15; what++) {
                s.is("told(" + what + ") of a house without DOORS and PERSONS", x.told(what), want[what]);
            }
            s.is("no pair", x.mirror(1, 2), Due.NONE);
            s.is("no DOOR", x.step(1), Due.NOT);
            s.is("BREATH of NAME 1, that is untold", x.round(1, Due.NONE), 1);
        }
        for (int k = 0; k < 3; k++) {
            s.is("of an empty text", x.house(), 0);
            for (int what = 0; what <= 15; what++) {
                s.is("told(" + what + ") of an empty text", x.told(what), 0);
            }
        }
        for (int k = 0; k < 3; k++) {
            Due.tell(x, "h2 0;d0 1;b1 1;p0;");
            s.is("a DOOR, a PERSON and BREATH of a NAME, once in each house", x.house(), 0);
            s.is("one DOOR", x.told(1), 1);
            s.is("one PERSON", x.told(3), 1);
        }
    }

    private static void houseForgets(Sentences s) {
        s.of("Promise 3", "nothing ASKED, no BOOK; IMAGES, what could be undone are gone;");
        for (String text : new String[] {"h1 1;m0 0;m0 1;", ""}) {
            GreetedMirrors x = Due.houseOf("h1 1;m0 0;m0 1;");
            x.ask(0, 1, true);
            x.write(0, 1);
            x.keep(0);
            x.keep(1);
            x.night();
            Due.tell(x, text);
            x.house();
            s.is("ASKED", x.told(13), 0);
            s.is("nothing ASKED that would not fit", x.changed(-2), 1);
            s.is("entries", x.told(14), 0);
            s.is("judge()", x.judge(), Due.NONE);
            s.is("tear()", x.tear(), 0);
            s.is("IMAGE 0", x.goBack(0), Due.NOT);
            s.is("IMAGE 1", x.goBack(1), Due.NOT);
            s.is("what can be undone", x.told(15), 0);
            s.is("undo()", x.undo(), Due.NOT);
        }
    }

    private static void houseTheSeedStays(Sentences s) {
        s.of("Promise 3", "THE SEED stays):");
        GreetedMirrors x = new GreetedMirrors();
        x.seed(2147483647);
        Due.tell(x, "h1 0;");
        x.house();
        s.is("behind a house", x.seed(5), 2147483647);
        x.house();
        s.is("behind an empty one", x.seed(6), 5);
        Due.tell(x, "x");
        x.house();
        s.is("behind a FAULT", x.seed(0), 6);
    }

    private static void houseHowManyMirrors(Sentences s) {
        s.of("Promise 3", "how many MIRRORS;");
        GreetedMirrors x = new GreetedMirrors();
        s.is("of an empty text", x.house(), 0);
        for (int mirrors = 0; mirrors <= 7; mirrors++) {
            Due.tell(x, "h1 0;" + "m0 0;".repeat(mirrors));
            s.is("of " + mirrors, x.house(), mirrors);
        }
    }

    private static void houseFault(Sentences s) {
        s.of("Promise 3", "-10 less the number of its FAULT");
        String[] texts = {"x", "h0", "h1 0;h", "h1 0;d0 0"};
        GreetedMirrors x = new GreetedMirrors();
        for (int kind = 1; kind <= 4; kind++) {
            Due.tell(x, texts[kind - 1]);
            s.is("FAULT " + kind, x.house(), -10 - kind);
        }
    }

    private static void houseAllElseIsAsItWas(Sentences s) {
        s.of("Promise 3", "(all else is as it was).");
        // Each is read far enough that a new house would be seen.
        for (String text : new String[] {"x", "h3 1;m2 5;m2 6;o0 1;d0 2;p1;b0 9;x", "h3 1;d0 2;d1 2;d0 1;p1;p1;p1;p1;p1;p", "h1 0", "h1 0;h1 0;"}) {
            GreetedMirrors x = Due.houseOf("h2 7;d0 1;m0 0;m0 1;m1 2;o0 1;p0;b0 3;");
            x.seed(9);
            x.keep(1);
            x.greet(0, 0);
            x.greet(1, 2);
            x.steam(1, true);
            x.ask(0, 1, true);
            x.write(0, 1);
            String ahead = Due.sightOf(x);
            Due.tell(x, text);
            s.is("house() of [" + text + "] has a FAULT", x.house() < -10 ? 1 : 0, 1);
            s.same("section 2 behind [" + text + "]", Due.sightOf(x), ahead);
            s.is("ROOMS", x.told(0), 2);
            s.is("DOORS", x.told(1), 1);
            s.is("MIRRORS", x.told(2), 3);
            s.is("PERSONS", x.told(3), 1);
            s.is("the DOOR", x.doorOf(0, 1), 1);
            s.is("ASKED", x.told(13), 1);
            s.is("THE BOOK", x.judge(), 0);
            s.is("undo()", x.undo(), 2);
            s.is("BREATH of NAME 0", x.greet(0, 0) == 0 ? x.told(11) : 0, 3 + 1 + 3);
            s.is("the IMAGE", x.goBack(1), 1);
            s.is("THE SEED", x.seed(0), 9);
        }
    }

    private static void faultPlace(Sentences s) {
        s.of("Promise 4", "The place (from 0 on) of the letter that has the FAULT of the latest house();");
        GreetedMirrors x = new GreetedMirrors();
        x.feed('x');
        x.house();
        s.is("the first letter", x.fault(), 0);
        Due.tell(x, " ".repeat(239) + "x");
        x.house();
        s.is("the last letter of 240", x.fault(), 239);
        Due.tell(x, " ".repeat(239) + "h");
        x.house();
        s.is("the end of 240", x.fault(), 240);
        Due.tell(x, "h9");
        s.is("of the latest house(), not of THE TEXT", x.fault(), 240);
        x.house();
        s.is("of the latest", x.fault(), 1);
    }

    private static void faultNone(Sentences s) {
        s.of("Promise 4", "NONE.");
        GreetedMirrors x = new GreetedMirrors();
        s.is("no house() as yet", x.fault(), Due.NONE);
        x.feed('x');
        x.house();
        Due.tell(x, "h1 0;");
        x.house();
        s.is("the latest has none", x.fault(), Due.NONE);
        x.feed('x');
        x.house();
        x.house();
        s.is("an empty one has none", x.fault(), Due.NONE);
    }

    private static final String TOLD = "0 ROOMS, 1 DOORS, 2 MIRRORS, 3 PERSONS, 4 letters of THE TEXT, 5 the ROOM where one is, "
        + "6 NAMES that one KNOWS, 7 LIT, 8 SPOILT MIRRORS, 9 ROOMS with STEAM, 10 DOORS that are shut (SETS), 11 BREATH so far, "
        + "12 NIGHTS, 13 how many were ASKED, 14 entries of THE BOOK, 15 how many can be undone.";

    private static void toldNothing(Sentences s) {
        s.of("Promise 5", TOLD);
        GreetedMirrors x = Due.houseOf("h1 0;");
        for (int what = 0; what <= 15; what++) {
            s.is("told(" + what + ") of one ROOM and nothing else", x.told(what), what == 0 ? 1 : 0);
        }
    }

    private static void toldMost(Sentences s) {
        s.of("Promise 5", TOLD);
        GreetedMirrors x = Due.houseOf(BoundsOfTerms.MOST);
        for (int k = 0; k < 15; k++) {
            x.ask(0, 0, true);
            x.write(0, 0);
        }
        for (int room = 0; room < 7; room++) {
            x.steam(room, true);
        }
        for (int m : new int[] {0, 1, 3}) {
            x.greet(m, m);
        }
        x.greet(4, 4);
        x.greet(5, 5);
        x.step(6);
        x.greet(6, 9);
        for (int d = 0; d < 8; d++) {
            x.door(d, true);
        }
        Due.tell(x, " ".repeat(240));
        // NAME 1 takes 9, NAME 9, too, the four others and the step 1 each.
        int[] want = {7, 8, 7, 5, 240, 6, 1023, 1 + 2 + 16 + 32 + 64, 4 + 8, 127, 255, 23, 0, 8, 15, 20};
        for (int what = 0; what <= 15; what++) {
            s.is("told(" + what + ") of all that there can be", x.told(what), want[what]);
        }
        x.night();
        s.is("NIGHTS", x.told(12), 1);
    }

    private static void toldOutside(Sentences s) {
        s.of("Promise 5", "OUTSIDE.");
        GreetedMirrors x = Due.houseOf(Due.ROW);
        s.is("told(-1)", x.told(-1), Due.OUTSIDE);
        s.is("told(0)", x.told(0), 4);
        s.is("told(15)", x.told(15), 0);
        s.is("told(16)", x.told(16), Due.OUTSIDE);
        for (int what : Sentences.beyond(16)) {
            s.is("told(" + what + ") without ROOMS", new GreetedMirrors().told(what), Due.OUTSIDE);
        }
    }

    private static void mirrorNone(Sentences s) {
        s.of("Promise 6", "Of a MIRROR: what = 0 ROOM, 1 NAME now, 2 the one opposite (NONE),");
        GreetedMirrors x = Due.houseOf("h7 1023;d0 6;m0 0;m6 9;m6 5;m0 1;m0 7;o4 0;");
        int[][] want = {{0, 0, 4}, {6, 9, Due.NONE}, {6, 5, Due.NONE}, {0, 1, Due.NONE}, {0, 7, 0}};
        for (int m = 0; m < 5; m++) {
            for (int what = 0; what <= 2; what++) {
                s.is("mirror(" + m + ", " + what + ")", x.mirror(m, what), want[m][what]);
            }
        }
        x.greet(0, 3);
        x.greet(0, 3);
        x.greet(0, 3);
        s.is("NAME now", x.mirror(0, 1), 3);
    }

    private static void mirrorCount(Sentences s) {
        s.of("Promise 6", "3 by which other NAME it was GREETED last (NONE: no count), 4 how often (0 without).");
        GreetedMirrors x = Due.houseOf("h1 1023;m0 1;");
        s.is("by which, at first", x.mirror(0, 3), Due.NONE);
        s.is("how often, at first", x.mirror(0, 4), 0);
        x.greet(0, 0);
        s.is("NAME 0", x.mirror(0, 3), 0);
        s.is("once", x.mirror(0, 4), 1);
        x.greet(0, 9);
        s.is("NAME 9", x.mirror(0, 3), 9);
        s.is("once again", x.mirror(0, 4), 1);
        x.greet(0, 9);
        s.is("twice", x.mirror(0, 4), 2);
        x.greet(0, 9);
        s.is("by which, behind the third time", x.mirror(0, 3), Due.NONE);
        s.is("how often, behind the third time", x.mirror(0, 4), 0);
        x.greet(0, 1);
        x.greet(0, 9);
        s.is("by which, behind its own NAME", x.mirror(0, 3), Due.NONE);
        s.is("how often, behind its own NAME", x.mirror(0, 4), 0);
    }

    private static void mirrorRefused(Sentences s) {
        s.of("Promise 6", "UNKNOWN, OUTSIDE.");
        GreetedMirrors x = Due.houseOf("h1 0;m0 0;m0 0;");
        s.is("mirror(-1, 0)", x.mirror(-1, 0), Due.UNKNOWN);
        s.is("mirror(1, 0)", x.mirror(1, 0), 0);
        s.is("mirror(2, 0)", x.mirror(2, 0), Due.UNKNOWN);
        s.is("mirror(1, -1)", x.mirror(1, -1), Due.OUTSIDE);
        s.is("mirror(1, 4)", x.mirror(1, 4), 0);
        s.is("mirror(1, 5)", x.mirror(1, 5), Due.OUTSIDE);
        s.is("both: mirror(2, 5)", x.mirror(2, 5), Due.UNKNOWN);
        s.is("both: mirror(-1, -1)", x.mirror(-1, -1), Due.UNKNOWN);
    }

    private static void doorOf(Sentences s) {
        s.of("Promise 7", "Of a DOOR: what = 0, 1 its ROOMS as told.");
        GreetedMirrors x = Due.houseOf(BoundsOfTerms.MOST);
        s.is("the first: A", x.doorOf(0, 0), 0);
        s.is("the first: B", x.doorOf(0, 1), 1);
        s.is("one told from the greater: A", x.doorOf(6, 0), 6);
        s.is("one told from the greater: B", x.doorOf(6, 1), 0);
        s.is("the eighth: B", x.doorOf(7, 1), 3);
        x.door(7, true);
        s.is("the eighth, shut", x.doorOf(7, 1), 3);
    }

    private static void doorOfRefused(Sentences s) {
        s.of("Promise 7", "UNKNOWN, OUTSIDE.");
        GreetedMirrors x = Due.houseOf("h2 0;d0 1;");
        s.is("doorOf(-1, 0)", x.doorOf(-1, 0), Due.UNKNOWN);
        s.is("doorOf(1, 0)", x.doorOf(1, 0), Due.UNKNOWN);
        s.is("doorOf(0, -1)", x.doorOf(0, -1), Due.OUTSIDE);
        s.is("doorOf(0, 2)", x.doorOf(0, 2), Due.OUTSIDE);
        s.is("both: doorOf(1, 2)", x.doorOf(1, 2), Due.UNKNOWN);
        s.is("both: doorOf(-1, -1)", x.doorOf(-1, -1), Due.UNKNOWN);
    }

    private static void person(Sentences s) {
        s.of("Promise 8", "The ROOM of a PERSON. UNKNOWN.");
        GreetedMirrors x = Due.houseOf("h7 0;p6;p0;p3;");
        s.is("in the last ROOM", x.person(0), 6);
        s.is("in the first", x.person(1), 0);
        s.is("the last PERSON", x.person(2), 3);
        s.is("none behind him", x.person(3), Due.UNKNOWN);
        s.is("none ahead of the first", x.person(-1), Due.UNKNOWN);
    }

    private static void sees(Sentences s) {
        s.of("Promise 9", "1 one PERSON sees another one (SEEN), 0 not.");
        GreetedMirrors x = Due.houseOf("h2 1;d0 1;m0 0;p0;p0;p1;");
        s.is("not", x.sees(0, 1), 0);
        x.greet(0, 0);
        s.is("sees(0, 1)", x.sees(0, 1), 1);
        s.is("sees(1, 0)", x.sees(1, 0), 1);
        s.is("sees(0, 2)", x.sees(0, 2), 1);
        s.is("sees(2, 0)", x.sees(2, 0), 0);
    }

    private static void seesUnknown(Sentences s) {
        s.of("Promise 9", "UNKNOWN.");
        GreetedMirrors x = Due.houseOf("h1 1;m0 0;p0;p0;");
        x.greet(0, 0);
        s.is("the first is none", x.sees(2, 0), Due.UNKNOWN);
        s.is("the other is none", x.sees(0, 2), Due.UNKNOWN);
        s.is("below", x.sees(-1, 0), Due.UNKNOWN);
        s.is("the other below", x.sees(0, -1), Due.UNKNOWN);
        s.is("one twice", x.sees(1, 1), Due.UNKNOWN);
        s.is("none twice", x.sees(2, 2), Due.UNKNOWN);
        s.is("the last two", x.sees(1, 0), 1);
    }
}
