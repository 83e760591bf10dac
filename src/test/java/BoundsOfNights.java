/** Section 2 of the Terms: steps, greetings, steam, who is seen, nights, envelopes, persons. */
final class BoundsOfNights {
    private BoundsOfNights() {
    }

    static void all(Sentences s) {
        inRoom0AtFirst(s);
        aStepTakes1(s);
        greetedByAName(s);
        notLitAndNotSpoilt(s);
        theLaterHung(s);
        neitherShowsTillNight(s);
        byAnotherName(s);
        threeTimes(s);
        overNights(s);
        byItsOwnNameTheCountIsOver(s);
        byAnotherOneItBeginsWith1(s);
        fromThenOn(s);
        breathIsCounted(s);
        steam(s);
        oneOfHisRoomIsLit(s);
        noSteam(s);
        oneDoorAway(s);
        night(s);
        envelope(s);
        walk(s);
    }

    private static void inRoom0AtFirst(Sentences s) {
        s.of("Terms 2", "One is in ROOM 0 at first.");
        s.is("in the only ROOM", Due.houseOf("h1 0;").told(5), 0);
        GreetedMirrors x = Due.houseOf("h7 0;d6 5;d0 6;");
        s.is("of seven", x.told(5), 0);
        x.step(6);
        Due.tell(x, "h7 0;d0 6;");
        x.house();
        s.is("in the next house, too", x.told(5), 0);
        s.is("one steps from there", x.step(6), 1);
        s.is("told(5) without ROOMS", new GreetedMirrors().told(5), 0);
    }

    private static void aStepTakes1(Sentences s) {
        s.of("Terms 2", "A STEP through a DOOR that is not shut (none is at first) takes 1 BREATH.");
        GreetedMirrors x = Due.houseOf(BoundsOfTerms.MOST);
        s.is("no DOOR is shut at first", x.told(10), 0);
        int breath = 0;
        for (int room : new int[] {1, 2, 3, 4, 5, 6, 0, 3, 0, 6}) {
            s.is("a step to " + room, x.step(room), ++breath);
        }
        x.door(5, true);
        s.is("through the shut one", x.step(5), Due.NOT);
        s.is("that took no BREATH", x.told(11), 10);
        x.door(5, false);
        s.is("through it when it is not shut any more", x.step(5), 11);
    }

    private static void greetedByAName(Sentences s) {
        s.of("Terms 2", "GREETED by a NAME (that one KNOWS, in its ROOM): takes its BREATH;");
        GreetedMirrors x = Due.houseOf("h2 513;d0 1;m0 9;m1 0;b9 9;");
        s.is("a NAME that one does not KNOW", x.greet(0, 8), Due.NOT);
        s.is("a MIRROR in the next ROOM", x.greet(1, 0), Due.NOT);
        s.is("no BREATH so far", x.told(11), 0);
        x.greet(0, 0);
        s.is("a NAME of which BREATH is untold", x.told(11), 1);
        x.greet(0, 9);
        s.is("a NAME of 9", x.told(11), 10);
        x.greet(0, 9);
        s.is("9, if it is LIT already", x.told(11), 19);
    }

    private static void notLitAndNotSpoilt(Sentences s) {
        s.of("Terms 2", "by its own NAME a MIRROR that is not LIT and not SPOILT is LIT;");
        GreetedMirrors x = Due.houseOf("h1 7;m0 0;m0 1;m0 2;o1 2;");
        s.is("not LIT", x.greet(0, 0), 1);
        s.is("LIT already", x.greet(0, 0), 0);
        s.is("it is LIT still", x.told(7), 1);
        x.greet(2, 2);
        s.is("the later one, SPOILT", x.greet(2, 2), 0);
        s.is("the other one, SPOILT", x.greet(1, 1), 0);
        s.is("neither is LIT", x.told(7), 1);
    }

    private static void theLaterHung(Sentences s) {
        s.of("Terms 2", "of two opposite: the later hung one, if the other is neither LIT nor SPOILT, is SPOILT, and so is the other");
        for (String pair : new String[] {"o0 6;", "o6 0;"}) {
            GreetedMirrors x = Due.houseOf("h1 1023;m0 0;m0 1;m0 2;m0 3;m0 4;m0 5;m0 6;" + pair);
            s.is("the later hung one first, by " + pair, x.greet(6, 6), 0);
            s.is("both are SPOILT", x.told(8), 65);
            s.is("none is LIT", x.told(7), 0);
            x.undo();
            s.is("the one that was hung ahead", x.greet(0, 0), 1);
            s.is("the later hung one, when the other is LIT", x.greet(6, 6), 1);
            s.is("none is SPOILT", x.told(8), 0);
            s.is("both are LIT", x.told(7), 65);
        }
    }

    private static void neitherShowsTillNight(Sentences s) {
        s.of("Terms 2", "(neither shows till night).");
        GreetedMirrors x = Due.houseOf("h1 3;m0 0;m0 1;o0 1;p0;p0;");
        x.greet(1, 1);
        x.greet(0, 0);
        x.greet(1, 1);
        s.is("sees() by SPOILT ones", x.sees(0, 1), 0);
        x.night();
        s.is("no more SPOILT", x.told(8), 0);
        s.is("LIT on the next evening", x.greet(0, 0), 1);
        s.is("sees() then", x.sees(0, 1), 1);
    }

    private static void byAnotherName(Sentences s) {
        s.of("Terms 2", "By another NAME nothing is LIT;");
        GreetedMirrors x = Due.houseOf("h1 1023;m0 0;m0 1;o0 1;");
        for (int name = 1; name <= 9; name++) {
            s.is("greet(0, " + name + ")", x.greet(0, name), 0);
        }
        s.is("the later one by the other's NAME", x.greet(1, 0), 0);
        s.is("nothing is LIT", x.told(7), 0);
        s.is("nothing is SPOILT", x.told(8), 0);
    }

    private static void threeTimes(Sentences s) {
        s.of("Terms 2", "GREETED three times, one behind the other, by one and the same other NAME");
        GreetedMirrors x = Due.houseOf("h1 1023;m0 0;m0 1;");
        x.greet(0, 9);
        s.is("once", x.mirror(0, 1), 0);
        x.greet(1, 9);
        x.greet(0, 9);
        s.is("twice", x.mirror(0, 1), 0);
        x.greet(1, 9);
        s.is("the third time lights nothing", x.greet(0, 9), 0);
        s.is("three times", x.mirror(0, 1), 9);
        s.is("twice, the other MIRROR", x.mirror(1, 1), 1);
        s.is("its count", x.mirror(1, 4), 2);
        GreetedMirrors y = Due.houseOf("h1 1023;m0 0;m0 1;m0 2;o0 1;");
        y.greet(1, 1);
        y.greet(2, 2);
        for (int k = 0; k < 3; k++) {
            s.is("both that are SPOILT have their NAMES", y.mirror(0, 1) + 10 * y.mirror(1, 1), 10);
            s.is("the LIT one has its NAME", y.mirror(2, 1), 2);
            y.greet(0, 9);
            y.greet(1, 8);
            y.greet(2, 7);
        }
        s.is("a SPOILT one has another one, too", y.mirror(0, 1), 9);
        s.is("the later SPOILT one, too", y.mirror(1, 1), 8);
        s.is("the LIT one, too", y.mirror(2, 1), 7);
        s.is("what is LIT is so still", y.told(7), 4);
        s.is("what is SPOILT is so still", y.told(8), 3);
    }

    private static void overNights(Sentences s) {
        s.of("Terms 2", "(over nights, too;");
        GreetedMirrors x = Due.houseOf("h1 3;m0 0;");
        x.greet(0, 1);
        x.night();
        x.greet(0, 1);
        x.night();
        x.night();
        s.is("twice, over three nights", x.mirror(0, 4), 2);
        x.greet(0, 1);
        s.is("the third time", x.mirror(0, 1), 1);
        x.night();
        s.is("the NAME stays over a night", x.mirror(0, 1), 1);
    }

    private static void byItsOwnNameTheCountIsOver(Sentences s) {
        s.of("Terms 2", "by its own NAME that count is over,");
        GreetedMirrors x = Due.houseOf("h1 7;m0 0;m0 1;o0 1;");
        x.greet(0, 2);
        x.greet(0, 2);
        x.greet(0, 0);
        s.is("which NAME, when it is LIT by it", x.mirror(0, 3), Due.NONE);
        s.is("how often", x.mirror(0, 4), 0);
        x.greet(0, 2);
        x.greet(0, 2);
        s.is("the fourth time in all", x.mirror(0, 1), 0);
        x.greet(0, 0);
        s.is("when it is LIT already", x.mirror(0, 4), 0);
        x.night();
        x.greet(1, 2);
        x.greet(0, 2);
        x.greet(1, 1);
        s.is("when it is SPOILT by it", x.mirror(1, 4), 0);
        s.is("not the other's, that is SPOILT with it", x.mirror(0, 4), 1);
        x.greet(0, 0);
        s.is("when it is SPOILT already", x.mirror(0, 4), 0);
    }

    private static void byAnotherOneItBeginsWith1(Sentences s) {
        s.of("Terms 2", "by another one it begins with 1)");
        GreetedMirrors x = Due.houseOf("h1 7;m0 0;");
        x.greet(0, 1);
        x.greet(0, 1);
        x.greet(0, 2);
        s.is("which NAME", x.mirror(0, 3), 2);
        s.is("how often", x.mirror(0, 4), 1);
        x.greet(0, 1);
        s.is("the first one again", x.mirror(0, 4), 1);
        x.greet(0, 1);
        s.is("not its NAME as yet", x.mirror(0, 1), 0);
        x.greet(0, 1);
        s.is("three of one NAME then", x.mirror(0, 1), 1);
    }

    private static void fromThenOn(Sentences s) {
        s.of("Terms 2", "it has that NAME from then on (the count is over).");
        GreetedMirrors x = Due.houseOf("h1 3;m0 0;");
        x.greet(0, 1);
        x.greet(0, 1);
        x.greet(0, 1);
        s.is("which NAME", x.mirror(0, 3), Due.NONE);
        s.is("how often", x.mirror(0, 4), 0);
        s.is("by what it was called", x.greet(0, 0), 0);
        s.is("which is another NAME now", x.mirror(0, 3), 0);
        s.is("by the NAME it has", x.greet(0, 1), 1);
        x.greet(0, 0);
        x.greet(0, 0);
        x.greet(0, 0);
        s.is("a second time misnamed", x.mirror(0, 1), 0);
    }

    private static void breathIsCounted(Sentences s) {
        s.of("Terms 2", "BREATH is counted.");
        GreetedMirrors x = Due.houseOf("h2 3;d0 1;m0 0;b0 9;b1 5;");
        s.is("none at first", x.told(11), 0);
        x.step(1);
        x.step(0);
        x.greet(0, 1);
        x.greet(0, 0);
        x.night();
        s.is("over a night", x.told(11), 16);
        x.drift(40);
        x.steam(0, true);
        x.door(0, true);
        x.envelope(5);
        s.is("nothing else takes any", x.told(11), 16);
        Due.tell(x, "h1 0;");
        x.house();
        s.is("none in a new house", x.told(11), 0);
    }

    private static void steam(Sentences s) {
        s.of("Terms 2", "STEAM in a ROOM: MIRRORS there show nothing.");
        GreetedMirrors x = Due.houseOf("h2 3;d0 1;m0 0;m0 1;m1 1;p0;p0;p1;");
        x.steam(0, true);
        s.is("one is LIT in STEAM, too", x.greet(0, 0), 1);
        x.greet(1, 1);
        s.is("sees() in that ROOM", x.sees(0, 1), 0);
        s.is("sees() into the next", x.sees(0, 2), 0);
        x.steam(0, false);
        s.is("sees() then", x.sees(0, 1), 1);
    }

    private static void oneOfHisRoomIsLit(Sentences s) {
        s.of("Terms 2", "SEEN: one PERSON sees another one, if a MIRROR in his ROOM is LIT,");
        GreetedMirrors x = Due.houseOf("h2 3;d0 1;m0 0;m0 1;p0;p1;");
        s.is("none is LIT", x.sees(0, 1), 0);
        x.greet(1, 1);
        s.is("the second one is", x.sees(0, 1), 1);
        s.is("none in the other's ROOM", x.sees(1, 0), 0);
        s.is("no MIRROR and no ROOM is LIT at first", Due.houseOf("h1 3;m0 0;p0;p0;").sees(0, 1), 0);
    }

    private static void noSteam(Sentences s) {
        s.of("Terms 2", "there is no STEAM,");
        GreetedMirrors x = Due.houseOf("h7 3;d6 5;d0 6;m6 0;p6;p5;");
        x.step(6);
        x.greet(0, 0);
        s.is("none", x.sees(0, 1), 1);
        x.steam(5, true);
        s.is("in the other's ROOM alone", x.sees(0, 1), 1);
        x.steam(6, true);
        s.is("in his", x.sees(0, 1), 0);
    }

    private static void oneDoorAway(Sentences s) {
        s.of("Terms 2", "and the other one is in that ROOM, or one DOOR that is not shut away.");
        GreetedMirrors x = Due.houseOf("h4 3;d1 0;d1 2;m0 0;p0;p0;p1;p2;p3;");
        x.greet(0, 0);
        s.is("in that ROOM", x.sees(0, 1), 1);
        s.is("one DOOR away", x.sees(0, 2), 1);
        s.is("two DOORS away", x.sees(0, 3), 0);
        s.is("no DOOR there", x.sees(0, 4), 0);
        x.door(0, true);
        s.is("that DOOR is shut", x.sees(0, 2), 0);
        s.is("in that ROOM, with its DOOR shut", x.sees(0, 1), 1);
    }

    private static void night(Sentences s) {
        s.of("Terms 2", "NIGHT: no MIRROR is LIT, SPOILT; no STEAM; NIGHTS are counted.");
        GreetedMirrors x = Due.houseOf("h7 1023;m0 0;m0 1;m0 2;m0 3;m0 4;m0 5;m0 6;o0 6;o1 5;");
        for (int m : new int[] {0, 6, 5, 2, 3, 4}) {
            x.greet(m, m);
        }
        for (int room = 0; room < 7; room++) {
            x.steam(room, true);
        }
        s.is("LIT ahead of it", x.told(7), 1 + 64 + 4 + 8 + 16);
        s.is("SPOILT ahead of it", x.told(8), 2 + 32);
        s.is("STEAM ahead of it", x.told(9), 127);
        s.is("the first", x.night(), 1);
        s.is("LIT", x.told(7), 0);
        s.is("SPOILT", x.told(8), 0);
        s.is("STEAM", x.told(9), 0);
        s.is("the second, when there is nothing of them", x.night(), 2);
    }

    private static void envelope(Sentences s) {
        s.of("Terms 2", "An ENVELOPE: one KNOWS a NAME more.");
        GreetedMirrors x = Due.houseOf("h1 0;m0 9;");
        s.is("not KNOWN", x.greet(0, 9), Due.NOT);
        s.is("of a NAME", x.envelope(9), 512);
        s.is("of the same", x.envelope(9), 512);
        s.is("KNOWN", x.greet(0, 9), 1);
        for (int name = 0; name < 9; name++) {
            x.envelope(name);
        }
        s.is("all", x.told(6), 1023);
    }

    private static void walk(Sentences s) {
        s.of("Terms 2", "A PERSON walks to any ROOM.");
        GreetedMirrors x = Due.houseOf("h7 0;d0 1;p0;");
        x.door(0, true);
        s.is("through a shut DOOR", x.walk(0, 1), 0);
        s.is("to the last ROOM, without a DOOR", x.walk(0, 6), 1);
        s.is("to where he is", x.walk(0, 6), 6);
        s.is("back to the first", x.walk(0, 0), 6);
        s.is("he is there", x.person(0), 0);
    }
}
