/** Section 3 of the Terms: TRIED, ASKED, THE BOOK, BY DRAWS, UNDONE, IMAGES. */
final class BoundsOfTries {
    private BoundsOfTries() {
    }

    static void all(Sentences s) {
        nothingChangesByIt(s);
        litAreLeftOut(s);
        shortestWaysRightNames(s);
        noneIsSpoiltByIt(s);
        ofLikeOnesTheFirst(s);
        itCannotBe(s);
        cannotAreNotLit(s);
        cannotAlone(s);
        steps(s);
        asked8AtMost(s);
        wasLitOrNot(s);
        unlikeNamesAsTold(s);
        howManyPairs(s);
        noneChanged(s);
        askNextBest(s);
        noneChangedIfThatFits(s);
        nonePartsThem(s);
        called(s);
        roomsThatHaveAMirror(s);
        mostSeenOfLikeOnes(s);
        learn(s);
        steamed(s);
        book15AtMost(s);
        theFirstThatIsOtherwise(s);
        theSeed(s);
        theSeedWrapsAround(s);
        eveningsOfSteam(s);
        eveningsOfPersons(s);
        eveningsOfMirrors(s);
        undoneNotRefused(s);
        twentyAtMost(s);
        allAsAheadOfIt(s);
        images(s);
    }

    private static void nothingChangesByIt(Sentences s) {
        s.of("Terms 3", "TRIED from now; nothing changes by it.");
        GreetedMirrors x = Due.houseOf(Due.ROW);
        x.greet(0, 1);
        x.greet(0, 3);
        x.steam(2, true);
        String ahead = Due.sightOf(x);
        x.round(31, Due.NONE);
        x.round(31, 3);
        x.round(63, 0);
        x.cannot();
        x.steps(3);
        x.mostSeen(0);
        x.mostSeen(1);
        x.learn();
        x.steamed(60, 1);
        s.same("all is as it was", Due.sightOf(x), ahead);
        s.is("nothing more to undo", x.told(15), 3);
        s.is("THE SEED", x.seed(0), 0);
    }

    private static void litAreLeftOut(Sentences s) {
        s.of("Terms 3", "those of it that are LIT are left out;");
        GreetedMirrors x = Due.houseOf("h2 1;d0 1;m0 0;m1 0;m1 9;");
        x.greet(0, 0);
        s.is("one of two", x.round(3, Due.NONE), 2);
        s.is("the first is the other one", x.round(3, 0), 1);
        s.is("there is no second", x.round(3, 1), Due.NONE);
        x.step(1);
        x.greet(1, 0);
        s.is("all of them", x.round(3, Due.NONE), 0);
        s.is("there is no first", x.round(3, 0), Due.NONE);
        // A LIT one behind a shut DOOR.
        GreetedMirrors y = Due.houseOf("h2 6;d0 1;m0 1;");
        y.greet(0, 1);
        y.step(1);
        y.door(0, true);
        s.is("a LIT one that one cannot come to", y.round(1, Due.NONE), 0);
    }

    private static void shortestWaysRightNames(Sentences s) {
        s.of("Terms 3", "all others are LIT in some order with least BREATH (STEPS by the shortest ways, greetings by right NAMES alone, "
            + "which one must KNOW;");
        GreetedMirrors x = Due.houseOf("h7 1;d0 1;d1 2;d2 3;d3 4;d4 5;d5 6;d6 0;m3 0;m4 0;m6 1;b0 9;");
        s.is("three steps and 9", x.round(1, Due.NONE), 12);
        s.is("the other way round", x.round(2, Due.NONE), 12);
        s.is("both", x.round(3, Due.NONE), 3 + 9 + 1 + 9);
        s.is("a NAME that one does not KNOW", x.round(4, Due.NONE), Due.NONE);
        s.is("beside those that one KNOWS", x.round(7, Due.NONE), Due.NONE);
        x.door(0, true);
        s.is("by the way that is left", x.round(1, Due.NONE), 4 + 9);
    }

    private static void noneIsSpoiltByIt(Sentences s) {
        s.of("Terms 3", "none is SPOILT by it);");
        GreetedMirrors x = Due.houseOf("h2 3;d0 1;m1 0;m1 1;m0 1;o0 1;");
        s.is("the later one alone", x.round(2, Due.NONE), Due.NONE);
        s.is("both", x.round(3, Due.NONE), 3);
        s.is("the first hung one first", x.round(3, 0), 0);
        x.step(1);
        x.greet(0, 0);
        s.is("the later one, the other is LIT", x.round(2, Due.NONE), 1);
        x.night();
        x.greet(1, 1);
        s.is("a SPOILT one", x.round(1, Due.NONE), Due.NONE);
        s.is("both SPOILT", x.round(3, Due.NONE), Due.NONE);
        s.is("beside one that is not", x.round(7, Due.NONE), Due.NONE);
        GreetedMirrors y = Due.houseOf("h1 7;m0 0;m0 1;m0 2;o2 0;");
        s.is("by the order in which they were hung, not told", y.round(5, 0), 0);
    }

    private static void ofLikeOnesTheFirst(Sentences s) {
        s.of("Terms 3", "of like ones the first (the lesser MIRROR first): BREATH; the i-th MIRROR;");
        GreetedMirrors x = Due.houseOf("h1 1;" + "m0 0;".repeat(7));
        for (int i = 0; i < 7; i++) {
            s.is("seven alike: round(127, " + i + ")", x.round(127, i), i);
        }
        s.is("there is no eighth", x.round(127, 7), Due.NONE);
        GreetedMirrors y = Due.houseOf("h3 1;d0 1;d0 2;m1 0;m2 0;m0 0;");
        s.is("left or right first: BREATH", y.round(3, Due.NONE), 3 + 2);
        s.is("the lesser MIRROR first", y.round(3, 0), 0);
        s.is("the other then", y.round(3, 1), 1);
        s.is("one in passing, as late as is like", y.round(7, 1), 2);
    }

    private static void itCannotBe(Sentences s) {
        s.of("Terms 3", "NONE: it cannot be.");
        GreetedMirrors x = Due.houseOf("h3 1;d0 1;m1 0;m2 0;");
        s.is("no way: BREATH", x.round(2, Due.NONE), Due.NONE);
        s.is("no way: the first", x.round(2, 0), Due.NONE);
        s.is("no way to one of two: the first", x.round(3, 0), Due.NONE);
        s.is("without it", x.round(1, Due.NONE), 2);
        s.is("none of all can be: nothing to do", x.round(0, Due.NONE), 0);
    }

    private static void cannotAreNotLit(Sentences s) {
        s.of("Terms 3", "CANNOT: MIRRORS (a SET), not LIT, that one cannot LIGHT alone from now");
        GreetedMirrors x = Due.houseOf("h2 7;d0 1;m0 1;m0 2;o0 1;m1 9;");
        s.is("at first", x.cannot(), 2 + 4);
        x.greet(0, 1);
        s.is("the later one can be then", x.cannot(), 4);
        x.step(1);
        x.door(0, true);
        s.is("the LIT one is not told, though there is no way to it", x.cannot(), 2 + 4);
        s.is("no MIRRORS", Due.houseOf("h1 0;").cannot(), 0);
        GreetedMirrors all = Due.houseOf("h1 0;" + "m0 0;".repeat(7));
        s.is("all seven", all.cannot(), 127);
        all.envelope(0);
        s.is("none of seven", all.cannot(), 0);
    }

    private static void cannotAlone(Sentences s) {
        s.of("Terms 3", "(a NAME that one does not KNOW; no way; SPOILT; of two opposite the later one, if the other is not LIT).");
        s.is("a NAME that one does not KNOW", Due.houseOf("h1 511;m0 8;m0 9;").cannot(), 2);
        GreetedMirrors x = Due.houseOf("h3 1;d0 1;m0 0;m1 0;m2 0;");
        s.is("no way", x.cannot(), 4);
        x.door(0, true);
        s.is("no way through a shut DOOR", x.cannot(), 6);
        GreetedMirrors y = Due.houseOf("h1 1023;m0 1;m0 2;m0 3;o2 1;");
        s.is("the later one", y.cannot(), 4);
        y.greet(2, 3);
        s.is("SPOILT ones", y.cannot(), 6);
        y.night();
        y.greet(1, 2);
        s.is("the other is LIT", y.cannot(), 0);
        y.steam(0, true);
        s.is("STEAM keeps none from it", y.cannot(), 0);
    }

    private static void steps(Sentences s) {
        s.of("Terms 3", "STEPS: the fewest from where one is to a ROOM; NONE.");
        GreetedMirrors x = Due.houseOf("h7 0;d0 1;d1 2;d2 3;d3 4;d4 5;d5 6;");
        for (int room = 0; room < 7; room++) {
            s.is("steps(" + room + ")", x.steps(room), room);
        }
        x.door(5, true);
        s.is("no way", x.steps(6), Due.NONE);
        s.is("as far as the shut DOOR", x.steps(5), 5);
        x.step(1);
        s.is("to where one is", x.steps(1), 0);
        s.is("back", x.steps(0), 1);
        s.is("a ROOM alone", Due.houseOf("h1 0;").steps(0), 0);
    }

    private static void asked8AtMost(Sentences s) {
        s.of("Terms 3", "ASKED (8 at most): a MIRROR, GREETED by a NAME, was LIT, or not (none SPOILT by order).");
        GreetedMirrors x = Due.houseOf("h1 0;m0 0;m0 1;o0 1;");
        for (int k = 1; k <= 8; k++) {
            s.is("time " + k, x.ask(0, 1, false), k);
        }
        s.is("a ninth time", x.ask(0, 0, false), Due.FULL);
        s.is("the ninth does not count", x.changed(-2), 1);
        x.tear();
        // The later one was LIT by its NAME, though it hangs opposite.
        x.ask(1, 1, true);
        s.is("none SPOILT by order", x.changed(-2), 1);
        s.is("none changed alone", x.changed(-1), 0);
    }

    private static void wasLitOrNot(Sentences s) {
        s.of("Terms 3", "so that all that was ASKED is so:");
        GreetedMirrors x = Due.houseOf("h1 0;m0 0;m0 1;");
        for (int k = 0; k < 7; k++) {
            x.ask(0, 1, true);
        }
        s.is("all seven are so by the pair", x.changed(-1), 1);
        x.ask(1, 0, false);
        s.is("the eighth is not", x.changed(-1), 0);
        x.tear();
        x.ask(1, 0, false);
        s.is("the first is not", x.changed(-1), 0);
    }

    private static void unlikeNamesAsTold(Sentences s) {
        s.of("Terms 3", "CHANGED: which two MIRRORS of unlike NAMES (as told by the text) have one another's NAMES,");
        GreetedMirrors x = Due.houseOf("h1 7;m0 0;m0 0;m0 1;");
        s.is("like NAMES are no pair", x.changed(0), 2);
        s.is("two pairs", x.changed(-1), 2);
        s.is("ASK NEXT", x.askNext(), 0);
        x.greet(1, 1);
        x.greet(1, 1);
        x.greet(1, 1);
        s.is("as told by the text: misnamed", x.mirror(1, 1), 1);
        s.is("as told by the text: two pairs", x.changed(-1), 2);
        s.is("as told by the text: the second", x.changed(1), 12);
        x.greet(0, 2);
        x.greet(0, 2);
        x.greet(0, 2);
        s.is("as told by the text: ASK NEXT", x.askNext(), 0);
        s.is("like ones alone", Due.houseOf("h1 0;m0 3;m0 3;m0 3;").changed(-1), 0);
    }

    private static void howManyPairs(Sentences s) {
        s.of("Terms 3", "how many such pairs; the i-th (10 times the lesser and the other; rising); NONE.");
        GreetedMirrors x = Due.houseOf("h1 0;m0 0;m0 1;m0 2;m0 3;m0 4;m0 5;m0 6;");
        int[] rising = {1, 2, 3, 4, 5, 6, 12, 13, 14, 15, 16, 23, 24, 25, 26, 34, 35, 36, 45, 46, 56};
        s.is("how many", x.changed(-1), rising.length);
        for (int i = 0; i < rising.length; i++) {
            s.is("changed(" + i + ")", x.changed(i), rising[i]);
        }
        s.is("behind the last", x.changed(rising.length), Due.NONE);
        x.ask(5, 6, true);
        s.is("one pair", x.changed(0), 56);
        s.is("no second one", x.changed(1), Due.NONE);
        s.is("no pair at all", Due.houseOf("h1 0;m0 0;").changed(0), Due.NONE);
    }

    private static void noneChanged(Sentences s) {
        s.of("Terms 3", "And whether all that was ASKED is so with none changed (1, 0).");
        GreetedMirrors x = Due.houseOf("h1 3;m0 0;m0 1;");
        s.is("nothing ASKED", x.changed(-2), 1);
        x.ask(0, 0, true);
        s.is("it was LIT by its NAME", x.changed(-2), 1);
        x.greet(0, 1);
        x.greet(0, 1);
        x.greet(0, 1);
        s.is("by its NAME as told", x.changed(-2), 1);
        x.ask(1, 1, false);
        s.is("it was not LIT by its NAME", x.changed(-2), 0);
        x.tear();
        x.ask(1, 0, true);
        s.is("it was LIT by another", x.changed(-2), 0);
    }

    private static void askNextBest(Sentences s) {
        s.of("Terms 3", "the greatest part that would be alike is least; of like ones the least;");
        // None, 0 1, 0 2, 1 2: each MIRROR has its own NAME in two of them.
        s.is("two and two", Due.houseOf("h1 0;m0 9;m0 8;m0 7;").askNext(), 9);
        GreetedMirrors x = Due.houseOf("h1 0;m0 5;m0 5;m0 2;");
        // None, 0 2, 1 2: one and two by any; MIRROR 0 by NAME 2 is the least of these.
        s.is("one and two", x.askNext(), 2);
        GreetedMirrors y = Due.houseOf("h1 0;m0 9;m0 3;m0 6;m0 0;");
        y.ask(3, 0, true);
        // None, 0 1, 0 2, 1 2: two and two by MIRROR 0 and NAME 9, and later ones.
        s.is("none of the last MIRROR is changed", y.askNext(), 9);
        y.ask(0, 9, false);
        // 0 1, 0 2: by MIRROR 0 and NAME 3 one and one.
        s.is("one and one", y.askNext(), 3);
    }

    private static void noneChangedIfThatFits(Sentences s) {
        s.of("Terms 3", "ASK NEXT: the MIRROR and NAME (10 times the MIRROR and the NAME) by which these pairs (and none changed, if that fits) "
            + "are told apart best:");
        GreetedMirrors x = Due.houseOf("h1 0;m0 5;m0 6;m0 7;");
        s.is("three pairs and none changed: two and two", x.askNext(), 5);
        s.is("three pairs", x.changed(-1), 3);
        x.ask(0, 5, true);
        // 1 2 and none changed: by MIRROR 1, to which 6 is its own NAME.
        s.is("one pair and none changed, where more did fit ahead of it", x.askNext(), 16);
        x.ask(1, 6, false);
        s.is("one pair alone", x.askNext(), Due.NONE);
        x.tear();
        x.ask(0, 5, false);
        // 0 1 and 0 2, but not none: by MIRROR 0 and NAME 6.
        s.is("two pairs, without none changed", x.askNext(), 6);
    }

    private static void nonePartsThem(Sentences s) {
        s.of("Terms 3", "NONE: none parts them.");
        s.is("no MIRRORS", Due.houseOf("h1 0;").askNext(), Due.NONE);
        s.is("none changed alone", Due.houseOf("h1 0;m0 4;m0 4;").askNext(), Due.NONE);
        GreetedMirrors x = Due.houseOf("h1 0;m0 4;m0 5;");
        s.is("a pair and none changed", x.askNext(), 4);
        x.ask(0, 4, true);
        s.is("none changed alone by what was ASKED", x.askNext(), Due.NONE);
        x.tear();
        x.ask(0, 4, false);
        s.is("a pair alone", x.askNext(), Due.NONE);
        x.ask(0, 4, true);
        s.is("nothing fits", x.askNext(), Due.NONE);
    }

    private static void called(Sentences s) {
        s.of("Terms 3", "CALLED: NAMES (a SET) of a MIRROR by which all that was ASKED of it is so.");
        GreetedMirrors x = Due.houseOf("h1 0;m0 0;m0 9;");
        s.is("nothing ASKED: all", x.called(0), 1023);
        x.ask(1, 9, true);
        s.is("of another one: all", x.called(0), 1023);
        for (int name = 0; name < 7; name++) {
            x.ask(0, name, false);
        }
        s.is("seven were not", x.called(0), 128 + 256 + 512);
        s.is("the last NAME alone", x.called(1), 512);
        x.tear();
        x.ask(0, 3, true);
        x.ask(0, 3, false);
        s.is("both: none", x.called(0), 0);
    }

    private static void roomsThatHaveAMirror(Sentences s) {
        s.of("Terms 3", "MOST SEEN: of ROOMS that have a MIRROR and no STEAM");
        GreetedMirrors x = Due.houseOf("h7 1;d0 1;d5 6;m1 0;m6 0;p0;p0;p0;p0;p6;");
        s.is("where most PERSONS are there is no MIRROR", x.mostSeen(0), 1);
        x.steam(1, true);
        s.is("STEAM there", x.mostSeen(0), 6);
        x.steam(0, true);
        s.is("STEAM where it is no matter", x.mostSeen(1), 1);
        x.steam(6, true);
        s.is("STEAM in both", x.mostSeen(0), Due.NONE);
        s.is("how many", x.mostSeen(1), Due.NONE);
        GreetedMirrors y = Due.houseOf("h1 3;m0 0;m0 1;o0 1;");
        y.greet(1, 1);
        s.is("a ROOM of SPOILT ones has MIRRORS, too", y.mostSeen(0), 0);
        y.night();
        y.greet(0, 0);
        y.greet(1, 1);
        s.is("a ROOM of LIT ones, too", y.mostSeen(0), 0);
        s.is("no ROOM has a MIRROR", Due.houseOf("h2 0;p0;").mostSeen(0), Due.NONE);
    }

    private static void mostSeenOfLikeOnes(Sentences s) {
        s.of("Terms 3", "that from which, were it LIT, most PERSONS could be seen (in it, or one DOOR that is not shut away); "
            + "of like ones the least; how many; NONE.");
        GreetedMirrors x = Due.houseOf("h7 0;d0 1;d1 2;d5 6;m6 0;m1 0;m0 0;p2;p1;p0;p5;p6;");
        s.is("one DOOR away", x.mostSeen(0), 1);
        s.is("three", x.mostSeen(1), 3);
        x.door(1, true);
        s.is("two each: the least ROOM", x.mostSeen(0), 0);
        s.is("two", x.mostSeen(1), 2);
        x.door(0, true);
        s.is("without its DOORS", x.mostSeen(0), 6);
        x.door(2, true);
        s.is("all alone", x.mostSeen(0), 0);
        s.is("one", x.mostSeen(1), 1);
        GreetedMirrors y = Due.houseOf("h3 0;m2 0;m1 0;");
        s.is("no PERSONS: the least", y.mostSeen(0), 1);
        s.is("no PERSONS: how many", y.mostSeen(1), 0);
        s.is("all five", Due.houseOf("h1 0;m0 0;p0;p0;p0;p0;p0;").mostSeen(1), 5);
    }

    private static void learn(Sentences s) {
        s.of("Terms 3", "LEARN: the fewest NAMES (a SET) that one must KNOW more to KNOW those of all MIRRORS that are not LIT "
            + "(SPOILT ones, and such as one cannot come to, too): the SET.");
        GreetedMirrors x = Due.houseOf("h2 1;m0 0;m0 0;m0 9;m0 0;m1 5;o2 3;");
        s.is("two alike are one NAME", x.learn(), 512 + 32);
        x.greet(3, 0);
        s.is("SPOILT ones, too", x.learn(), 512 + 32);
        x.envelope(9);
        s.is("such as one cannot come to, too", x.learn(), 32);
        x.envelope(5);
        s.is("none", x.learn(), 0);
        s.is("no MIRRORS", Due.houseOf("h1 0;").learn(), 0);
        GreetedMirrors y = Due.houseOf("h1 0;m0 0;m0 1;m0 2;m0 9;");
        s.is("all of them", y.learn(), 519);
        y.seed(seedOf(2));
        int lit = y.drift(1);
        s.is("one is LIT, that is not KNOWN", Integer.bitCount(lit), 1);
        s.is("but for that one", y.learn(), (lit & 7 ^ 7) + (lit < 8 ? 512 : 0));
    }

    private static void steamed(Sentences s) {
        s.of("Terms 3", "STEAMED: odds that none of n ROOMS (0 .. 60) is, each by q of a hundred: a BILLION times (100 less q) / 100 each (cut).");
        GreetedMirrors x = new GreetedMirrors();
        for (int q = 0; q <= 100; q++) {
            s.is("steamed(0, " + q + ")", x.steamed(0, q), 1000000000);
            s.is("steamed(1, " + q + ")", x.steamed(1, q), 10000000L * (100 - q));
            s.is("steamed(60, " + q + ")", x.steamed(60, q), cutAtEach(60, q));
        }
        for (int n = 0; n <= 60; n++) {
            s.is("steamed(" + n + ", 1)", x.steamed(n, 1), cutAtEach(n, 1));
        }
    }

    private static long cutAtEach(int n, int q) {
        long odds = 1000000000L;
        for (int k = 0; k < n; k++) {
            odds = Math.floorDiv(odds * (100 - q), 100);
        }
        return odds;
    }

    private static void book15AtMost(Sentences s) {
        s.of("Terms 3", "THE BOOK (15 at most) tells NAMES of MIRRORS:");
        GreetedMirrors x = Due.houseOf("h1 0;m0 0;");
        for (int k = 1; k <= 15; k++) {
            s.is("entry " + k, x.write(0, k < 15 ? 0 : 9), k);
        }
        s.is("a sixteenth", x.write(0, 0), Due.FULL);
        s.is("the last of fifteen is there", x.judge(), 14);
    }

    private static void theFirstThatIsOtherwise(Sentences s) {
        s.of("Terms 3", "WRONG: the first that is otherwise now; NONE.");
        GreetedMirrors x = Due.houseOf("h1 7;m0 0;m0 1;");
        s.is("no entry", x.judge(), Due.NONE);
        x.write(1, 1);
        x.write(0, 0);
        s.is("none is otherwise", x.judge(), Due.NONE);
        x.write(1, 2);
        x.write(0, 2);
        s.is("the first of two", x.judge(), 2);
        x.greet(0, 2);
        x.greet(0, 2);
        x.greet(0, 2);
        s.is("as it is now", x.judge(), 1);
    }

    private static void theSeed(Sentences s) {
        s.of("Terms 3", "THE SEED (0 at first: each DRAW it becomes it times 1103515245 and 12345, left over by 2 to the 31; "
            + "the DRAW of n is it / 65536, left over by n)");
        GreetedMirrors x = Due.houseOf("h7 0;");
        // From 0 on it is 12345 first, of which the DRAW of 3 is 0: STEAM, in a ROOM by the second.
        s.is("an evening", x.drift(1), 0);
        s.is("STEAM in a ROOM", x.told(9), 1 << Sentences.draw(0, 2, 7));
        s.is("it was 0 at first", x.seed(0), 12345L * 1103515245L % 2147483648L + 12345);
        s.is("0 at first", new GreetedMirrors().seed(9), 0);
    }

    private static void theSeedWrapsAround(Sentences s) {
        s.of("Terms 3", "left over by 2 to the 31;");
        for (int seed : new int[] {2147483647, 2147483646, 1 << 30, 1, 2, 1103515245}) {
            GreetedMirrors x = Due.houseOf("h7 0;");
            x.seed(seed);
            x.drift(1);
            int kind = Sentences.draw(seed, 1, 3);
            s.is("from " + seed + " on", x.seed(0), Sentences.seedAfter(seed, kind == 0 ? 2 : 1));
            s.is("STEAM from " + seed + " on", x.told(9), kind == 0 ? 1 << Sentences.draw(seed, 2, 7) : 0);
        }
    }

    /** The first seed by which the first DRAW of 3 is that. */
    private static int seedOf(int kind) {
        int seed = 0;
        while (Sentences.draw(seed, 1, 3) != kind) {
            seed++;
        }
        return seed;
    }

    private static void eveningsOfSteam(Sentences s) {
        s.of("Terms 3", "n evenings: in each a DRAW of 3: on 0 a DRAW of ROOMS has STEAM,");
        for (int rooms : new int[] {1, 2, 7}) {
            GreetedMirrors x = Due.houseOf("h" + rooms + " 0;");
            x.seed(seedOf(0));
            x.drift(1);
            s.is("one of " + rooms, x.told(9), 1 << Sentences.draw(seedOf(0), 2, rooms));
            s.is("two DRAWS", x.seed(0), Sentences.seedAfter(seedOf(0), 2));
        }
    }

    private static void eveningsOfPersons(Sentences s) {
        s.of("Terms 3", "on 1, if there are PERSONS, a DRAW of these, a DRAW of ROOMS: he walks there;");
        GreetedMirrors none = Due.houseOf("h7 0;m0 0;");
        none.seed(seedOf(1));
        none.drift(1);
        s.is("no PERSONS: one DRAW", none.seed(0), Sentences.seedAfter(seedOf(1), 1));
        s.is("no PERSONS: nothing is LIT, no STEAM", none.told(7) + none.told(9), 0);
        for (int persons : new int[] {1, 5}) {
            GreetedMirrors x = Due.houseOf("h7 0;" + "p0;".repeat(persons));
            x.seed(seedOf(1));
            x.drift(1);
            int p = Sentences.draw(seedOf(1), 2, persons);
            s.is("one of " + persons + " walks", x.person(p), Sentences.draw(seedOf(1), 3, 7));
            s.is("three DRAWS", x.seed(0), Sentences.seedAfter(seedOf(1), 3));
        }
    }

    private static void eveningsOfMirrors(Sentences s) {
        s.of("Terms 3", "on 2, if there are MIRRORS, a DRAW of these: it is GREETED by its own NAME, as if one stood there and KNEW it, no BREATH.");
        GreetedMirrors none = Due.houseOf("h7 0;p0;");
        none.seed(seedOf(2));
        none.drift(1);
        s.is("no MIRRORS: one DRAW", none.seed(0), Sentences.seedAfter(seedOf(2), 1));
        for (int mirrors : new int[] {1, 7}) {
            GreetedMirrors x = Due.houseOf("h7 0;" + "m6 9;".repeat(mirrors));
            x.seed(seedOf(2));
            s.is("one of " + mirrors, x.drift(1), 1 << Sentences.draw(seedOf(2), 2, mirrors));
            s.is("two DRAWS", x.seed(0), Sentences.seedAfter(seedOf(2), 2));
            s.is("no BREATH", x.told(11), 0);
        }
        GreetedMirrors y = Due.houseOf("h1 3;m0 0;");
        y.greet(0, 1);
        y.greet(0, 1);
        y.seed(seedOf(2));
        y.drift(1);
        s.is("the count is over", y.mirror(0, 4), 0);
        y.night();
        y.greet(0, 1);
        y.greet(0, 1);
        y.greet(0, 1);
        y.seed(seedOf(2));
        s.is("by the NAME that it has now", y.drift(1), 1);
        // The later one of two is drawn first: both are SPOILT.
        GreetedMirrors z = Due.houseOf("h7 0;m6 0;m6 0;o0 1;");
        int seed = 0;
        while (Sentences.draw(seed, 1, 3) != 2 || Sentences.draw(seed, 2, 2) != 1) {
            seed++;
        }
        z.seed(seed);
        s.is("the later one first", z.drift(1), 0);
        s.is("both are SPOILT", z.told(8), 3);
    }

    private static void undoneNotRefused(Sentences s) {
        s.of("Terms 3", "UNDONE: the latest of step(), greet(), steam(), door(), night(), envelope(), walk(), drift() that was not refused");
        GreetedMirrors x = Due.houseOf("h2 1;d0 1;m0 0;p0;");
        x.step(1);
        x.step(2);
        x.step(1);
        x.greet(0, 0);
        x.steam(2, true);
        x.door(1, true);
        x.envelope(10);
        x.walk(1, 0);
        x.drift(0);
        s.is("one was not refused", x.told(15), 1);
        s.is("the step is undone", x.undo(), 0);
        s.is("it was", x.told(5), 0);
        // Such as change nothing are not refused.
        x.steam(0, false);
        x.door(0, false);
        x.envelope(0);
        x.walk(0, 0);
        s.is("four that changed nothing", x.told(15), 4);
        x.night();
        x.drift(1);
        x.step(1);
        x.step(0);
        x.greet(0, 0);
        s.is("nine in all", x.told(15), 9);
        // What is tried, asked, fed, sown is none of these.
        x.ask(0, 0, true);
        x.write(0, 0);
        x.tear();
        x.seed(4);
        x.feed('h');
        x.round(1, 0);
        s.is("nine still", x.told(15), 9);
    }

    private static void twentyAtMost(Sentences s) {
        s.of("Terms 3", "(20 at most are kept, the oldest are lost):");
        GreetedMirrors x = Due.houseOf("h2 0;d0 1;");
        for (int k = 1; k <= 19; k++) {
            x.step(k % 2);
        }
        s.is("nineteen", x.told(15), 19);
        x.step(0);
        s.is("twenty", x.told(15), 20);
        x.step(1);
        s.is("the 21st: twenty still", x.told(15), 20);
        for (int k = 19; k >= 0; k--) {
            s.is("undo(), " + k + " more", x.undo(), k);
            s.is("BREATH then", x.told(11), k + 1);
        }
        s.is("the oldest is lost", x.undo(), Due.NOT);
        s.is("its step stays", x.told(11), 1);
        // Some undone between, some lost: the row of those that are kept goes round several times.
        for (int turn = 0; turn < 4; turn++) {
            for (int k = 0; k < 17; k++) {
                x.night();
            }
            for (int k = 0; k < 5; k++) {
                x.undo();
            }
        }
        int nights = x.told(12);
        s.is("nights", nights, 4 * 12);
        int kept = x.told(15);
        s.is("as many as can be", kept, 15);
        for (int k = kept - 1; k >= 0; k--) {
            s.is("undo() of a night, " + k + " more", x.undo(), k);
            s.is("NIGHTS then", x.told(12), --nights);
        }
        s.is("older ones are lost", x.undo(), Due.NOT);
    }

    private static void allAsAheadOfIt(Sentences s) {
        s.of("Terms 3", "all of section 2 is as ahead of it; THE SEED stays.");
        GreetedMirrors x = Due.houseOf(Due.ROW);
        x.greet(0, 1);
        x.greet(0, 2);
        x.steam(3, true);
        x.door(2, true);
        String ahead = Due.sightOf(x);
        x.seed(seedOf(0));
        x.drift(1);
        x.undo();
        s.same("the evening is undone", Due.sightOf(x), ahead);
        s.is("THE SEED stays as it was drawn", x.seed(5), Sentences.seedAfter(seedOf(0), 2));
        x.drift(40);
        x.seed(6);
        x.undo();
        s.same("forty evenings are undone", Due.sightOf(x), ahead);
        s.is("THE SEED stays as it was sown", x.seed(0), 6);
        x.night();
        x.undo();
        s.same("the night is undone", Due.sightOf(x), ahead);
        x.greet(0, 2);
        x.greet(0, 2);
        s.is("a NAME by the third time", x.mirror(0, 1), 2);
        x.undo();
        x.undo();
        s.same("NAME and count are as they were", Due.sightOf(x), ahead);
        x.ask(0, 1, true);
        x.write(0, 1);
        x.night();
        x.undo();
        s.is("what was ASKED is no part of it", x.told(13), 1);
        s.is("nor is THE BOOK", x.told(14), 1);
    }

    private static void images(Sentences s) {
        s.of("Terms 3", "IMAGES 0, 1 keep all of section 2, THE SEED.");
        GreetedMirrors x = Due.houseOf(Due.ROW);
        x.seed(2147483647);
        x.keep(1);
        String first = Due.sightOf(x);
        x.greet(0, 1);
        x.greet(0, 2);
        x.step(1);
        x.greet(2, 3);
        x.steam(3, true);
        x.door(2, true);
        x.envelope(9);
        x.walk(2, 2);
        x.night();
        x.greet(1, 2);
        x.greet(1, 4);
        x.greet(1, 4);
        x.greet(1, 4);
        x.seed(0);
        x.keep(0);
        String second = Due.sightOf(x);
        x.goBack(1);
        s.same("IMAGE 1", Due.sightOf(x), first);
        s.is("THE SEED of IMAGE 1", x.seed(5), 2147483647);
        x.goBack(0);
        s.same("IMAGE 0", Due.sightOf(x), second);
        s.is("THE SEED of IMAGE 0", x.seed(5), 0);
    }
}
