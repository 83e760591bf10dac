import java.util.List;
import java.util.function.Supplier;
import java.util.function.ToIntFunction;

/** The head of the Terms: numbers, SETS, the REFUSALS and their order. */
final class BoundsOfTerms {
    /** All that there can be of everything: the last room is 6, the last door 7, the last mirror 6, the last person 4. */
    static final String MOST = "h7 1023;d0 1;d1 2;d2 3;d3 4;d4 5;d5 6;d6 0;d0 3;m0 0;m0 1;m0 2;m0 3;m0 4;m0 5;m6 9;o0 1;o2 3;o4 5;"
        + "b0 1;b1 9;b9 9;p0;p6;p0;p6;p3;";

    private record Refused(String call, int refusal, ToIntFunction<GreetedMirrors> run) {
    }

    private BoundsOfTerms() {
    }

    static void all(Sentences s) {
        what512CallsAre(s);
        cutTowards0(s);
        numbersFrom0(s);
        bitKForK(s);
        noneIsMinus1(s);
        firstInThisOrder(s);
        noRoomThatThereIsNot(s);
        noDoorOrMirrorThatThereIsNot(s);
        noNamePersonOrImageThatThereIsNot(s);
        oneTwice(s);
        bitsOfSuch(s);
        anotherNumberOutOfItsBounds(s);
        notNowAndFull(s);
        farBelow(s);
        refusedChangesNothing(s);
        refusedChangesNothingInAFullText(s);
        refusedChangesNothingWithoutRooms(s);
        billion(s);
    }

    private static void what512CallsAre(Sentences s) {
        s.of("What it is", "An object is used for at most 512 calls after it has been made");
        GreetedMirrors x = new GreetedMirrors();
        Due.tell(x, MOST);
        int calls = MOST.length() + 1;
        s.is("house()", x.house(), 7);
        while (calls < 511) {
            s.is("round(127, 6), call " + ++calls, x.round(127, 6), 6);
        }
        s.is("the 512th call, round(127, NONE)", x.round(127, Due.NONE), 1 + 9 + 1 + 1 + 1 + 1 + 1 + 9);
    }

    private static void cutTowards0(Sentences s) {
        s.of("Terms", "/ cuts towards 0");
        GreetedMirrors x = new GreetedMirrors();
        s.is("a BILLION, three times 99 of a hundred: 970299000", x.steamed(3, 1), 970299000);
        s.is("a fifth time: 950990049.9", x.steamed(5, 1), 950990049);
        s.is("the last of what is left: 1 by 99 of a hundred", x.steamed(60, 99), 0);
    }

    private static void numbersFrom0(Sentences s) {
        s.of("Terms", "What has a number has it from 0 on, as it comes.");
        GreetedMirrors x = Due.houseOf("h3 1023;d2 1;d1 0;m2 5;m0 6;p2;p1;");
        s.is("DOOR 0 is the first told", x.doorOf(0, 0), 2);
        s.is("DOOR 1 is the second", x.doorOf(1, 1), 0);
        s.is("there is no DOOR 2", x.doorOf(2, 0), Due.UNKNOWN);
        s.is("MIRROR 0 is the first told", x.mirror(0, 1), 5);
        s.is("MIRROR 1 is the second", x.mirror(1, 1), 6);
        s.is("there is no MIRROR 2", x.mirror(2, 1), Due.UNKNOWN);
        s.is("PERSON 0 is the first told", x.person(0), 2);
        s.is("PERSON 1 is the second", x.person(1), 1);
        s.is("there is no PERSON 2", x.person(2), Due.UNKNOWN);
        s.is("ROOM 0", x.steps(0), 0);
        s.is("ROOM 2 is the third", x.steps(2), 2);
        s.is("there is no ROOM 3", x.steps(3), Due.UNKNOWN);
        x.write(0, 9);
        s.is("entry 0 of THE BOOK is the first", x.judge(), 0);
        s.is("the first MIRROR of a ROUND has 0", x.round(3, 0), 1);
        s.is("the first pair has 0", x.changed(0), 1);
    }

    private static void bitKForK(Sentences s) {
        s.of("Terms", "A SET is a whole number, bit k for k.");
        GreetedMirrors x = Due.houseOf(MOST);
        s.is("NAMES 0 to 9", x.told(6), 1023);
        x.greet(0, 0);
        s.is("MIRROR 0", x.told(7), 1);
        x.step(6);
        x.greet(6, 9);
        s.is("MIRRORS 0 and 6", x.told(7), 65);
        x.steam(6, true);
        s.is("ROOM 6", x.told(9), 64);
        x.steam(0, true);
        s.is("ROOMS 0 and 6", x.told(9), 65);
        x.door(7, true);
        s.is("DOOR 7", x.told(10), 128);
        x.door(0, true);
        s.is("DOORS 0 and 7", x.told(10), 129);
        s.is("a SET of the last MIRROR alone, that is LIT", x.round(64, Due.NONE), 0);
        x.ask(6, 9, true);
        s.is("NAME 9 alone", x.called(6), 512);
        GreetedMirrors y = Due.houseOf("h1 0;m0 9;m0 0;");
        s.is("NAMES 0 and 9", y.learn(), 513);
        s.is("no NAME", y.told(6), 0);
        s.is("an ENVELOPE of NAME 9", y.envelope(9), 512);
    }

    private static void noneIsMinus1(Sentences s) {
        s.of("Terms", "NONE is -1.");
        s.is("NONE", GreetedMirrors.NONE, -1);
        s.is("judge() without a BOOK", new GreetedMirrors().judge(), -1);
    }

    private static void firstInThisOrder(Sentences s) {
        s.of("Terms", "REFUSALS, of several the first in this order: UNKNOWN");
        GreetedMirrors x = Due.houseOf(Due.ROW);
        s.is("mirror(): no MIRROR, what out of bounds", x.mirror(6, 5), Due.UNKNOWN);
        s.is("doorOf(): no DOOR, what out of bounds", x.doorOf(3, -1), Due.UNKNOWN);
        s.is("greet(): no MIRROR, a NAME that one does not KNOW", x.greet(6, 9), Due.UNKNOWN);
        s.is("greet(): a MIRROR in another ROOM, no NAME", x.greet(5, 10), Due.UNKNOWN);
        s.is("round(): bits of no MIRROR, an i of none", x.round(64, 9), Due.UNKNOWN);
        s.is("round(): bits of no MIRROR, and it cannot be", x.round(64 + 32, Due.NONE), Due.UNKNOWN);
        s.is("goBack(): no IMAGE, and not kept", x.goBack(2), Due.UNKNOWN);
        for (int k = 0; k < 15; k++) {
            x.ask(0, 1, true);
            x.write(0, 1);
        }
        s.is("ask(): no MIRROR, full", x.ask(6, 1, true), Due.UNKNOWN);
        s.is("ask(): no NAME, full", x.ask(0, 10, true), Due.UNKNOWN);
        s.is("write(): no MIRROR, full", x.write(6, 1), Due.UNKNOWN);
        s.is("write(): no NAME, full", x.write(0, 10), Due.UNKNOWN);
        GreetedMirrors empty = new GreetedMirrors();
        s.is("step(): no ROOM, no DOOR there", empty.step(0), Due.UNKNOWN);
        s.is("drift(): too few, no ROOMS", empty.drift(0), Due.OUTSIDE);
        s.is("drift(): too many, no ROOMS", empty.drift(41), Due.OUTSIDE);
        s.is("mostSeen(): what out of bounds, no ROOMS", empty.mostSeen(2), Due.OUTSIDE);
        Due.tell(empty, " ".repeat(240));
        s.is("feed(): below, full", empty.feed(-1), Due.OUTSIDE);
        s.is("feed(): above, full", empty.feed(256), Due.OUTSIDE);
        // Only behind more than 512 calls is BREATH above its bound.
        GreetedMirrors y = outOfBreath();
        s.is("greet(): no MIRROR, BREATH above its bound", y.greet(2, 0), Due.UNKNOWN);
        s.is("greet(): no NAME, BREATH above its bound", y.greet(0, 10), Due.UNKNOWN);
        s.is("greet(): another ROOM, BREATH above its bound", y.greet(1, 0), Due.NOT);
        s.is("greet(): a NAME not KNOWN, BREATH above its bound", y.greet(0, 1), Due.NOT);
        s.is("step(): no ROOM, BREATH above its bound", y.step(3), Due.UNKNOWN);
        s.is("step(): no DOOR, BREATH above its bound", y.step(2), Due.NOT);
        y.door(0, true);
        s.is("step(): a shut DOOR, BREATH above its bound", y.step(1), Due.NOT);
    }

    /** BREATH is 90001 there: three ROOMS, a DOOR to the second, a MIRROR in ROOM 0 and one in ROOM 1; one KNOWS NAMES 0, 9. */
    static GreetedMirrors outOfBreath() {
        GreetedMirrors x = Due.houseOf("h3 513;d0 1;m0 0;m1 0;b9 9;");
        for (int k = 0; k < 10000; k++) {
            x.greet(0, 9);
        }
        x.greet(0, 0);
        return x;
    }

    private static void noRoomThatThereIsNot(Sentences s) {
        s.of("Terms", "(a ROOM, DOOR, MIRROR, NAME, PERSON, IMAGE that there is not");
        for (int rooms : new int[] {1, 2, 7}) {
            GreetedMirrors x = Due.houseOf("h" + rooms + " 0;p0;");
            for (int room : Sentences.beyond(rooms)) {
                s.is("step(" + room + ") of " + rooms, x.step(room), Due.UNKNOWN);
                s.is("steam(" + room + ") of " + rooms, x.steam(room, true), Due.UNKNOWN);
                s.is("walk(0, " + room + ") of " + rooms, x.walk(0, room), Due.UNKNOWN);
                s.is("steps(" + room + ") of " + rooms, x.steps(room), Due.UNKNOWN);
            }
            s.is("steam in the last", x.steam(rooms - 1, true), 0);
            s.is("he walks to the last", x.walk(0, rooms - 1), 0);
            s.is("ROOM 0", x.steps(0), 0);
        }
    }

    private static void noDoorOrMirrorThatThereIsNot(Sentences s) {
        s.of("Terms", "(a ROOM, DOOR, MIRROR, NAME, PERSON, IMAGE that there is not");
        GreetedMirrors x = Due.houseOf(MOST);
        GreetedMirrors bare = Due.houseOf("h2 1;");
        for (int d : Sentences.beyond(8)) {
            s.is("doorOf(" + d + ", 0)", x.doorOf(d, 0), Due.UNKNOWN);
            s.is("door(" + d + ")", x.door(d, true), Due.UNKNOWN);
        }
        s.is("DOOR 0 of none", bare.doorOf(0, 0), Due.UNKNOWN);
        s.is("door(0) of none", bare.door(0, true), Due.UNKNOWN);
        for (int m : Sentences.beyond(7)) {
            s.is("mirror(" + m + ", 0)", x.mirror(m, 0), Due.UNKNOWN);
            s.is("greet(" + m + ", 0)", x.greet(m, 0), Due.UNKNOWN);
            s.is("ask(" + m + ", 0)", x.ask(m, 0, true), Due.UNKNOWN);
            s.is("called(" + m + ")", x.called(m), Due.UNKNOWN);
            s.is("write(" + m + ", 0)", x.write(m, 0), Due.UNKNOWN);
        }
        s.is("mirror(0, 0) of none", bare.mirror(0, 0), Due.UNKNOWN);
        s.is("greet(0, 0) of none", bare.greet(0, 0), Due.UNKNOWN);
        s.is("ask(0, 0) of none", bare.ask(0, 0, true), Due.UNKNOWN);
        s.is("called(0) of none", bare.called(0), Due.UNKNOWN);
        s.is("write(0, 0) of none", bare.write(0, 0), Due.UNKNOWN);
        s.is("the last DOOR", x.door(7, false), 0);
        s.is("the last MIRROR", x.called(6), 1023);
    }

    private static void noNamePersonOrImageThatThereIsNot(Sentences s) {
        s.of("Terms", "(a ROOM, DOOR, MIRROR, NAME, PERSON, IMAGE that there is not");
        GreetedMirrors x = Due.houseOf(MOST);
        GreetedMirrors bare = Due.houseOf("h2 1;");
        for (int name : Sentences.beyond(10)) {
            s.is("greet(0, " + name + ")", x.greet(0, name), Due.UNKNOWN);
            s.is("envelope(" + name + ")", x.envelope(name), Due.UNKNOWN);
            s.is("ask(0, " + name + ")", x.ask(0, name, false), Due.UNKNOWN);
            s.is("write(0, " + name + ")", x.write(0, name), Due.UNKNOWN);
        }
        for (int p : Sentences.beyond(5)) {
            s.is("person(" + p + ")", x.person(p), Due.UNKNOWN);
            s.is("sees(" + p + ", 0)", x.sees(p, 0), Due.UNKNOWN);
            s.is("sees(0, " + p + ")", x.sees(0, p), Due.UNKNOWN);
            s.is("walk(" + p + ", 0)", x.walk(p, 0), Due.UNKNOWN);
        }
        s.is("person(0) of none", bare.person(0), Due.UNKNOWN);
        s.is("sees(0, 1) of none", bare.sees(0, 1), Due.UNKNOWN);
        s.is("walk(0, 0) of none", bare.walk(0, 0), Due.UNKNOWN);
        for (int i : Sentences.beyond(2)) {
            s.is("keep(" + i + ")", bare.keep(i), Due.UNKNOWN);
            s.is("goBack(" + i + ")", bare.goBack(i), Due.UNKNOWN);
        }
        s.is("the last NAME", x.envelope(9), 1023);
        s.is("the last PERSON", x.person(4), 3);
        s.is("the last IMAGE", x.keep(1), 1);
    }

    private static void oneTwice(Sentences s) {
        s.of("Terms", "one twice, where two are asked;");
        GreetedMirrors x = Due.houseOf(MOST);
        x.greet(0, 0);
        for (int p = 0; p < 5; p++) {
            s.is("sees(" + p + ", " + p + ")", x.sees(p, p), Due.UNKNOWN);
        }
        s.is("two in the same ROOM are two", x.sees(0, 2), 1);
    }

    private static void bitsOfSuch(Sentences s) {
        s.of("Terms", "bits of such)");
        for (int mirrors = 0; mirrors <= 7; mirrors++) {
            GreetedMirrors x = Due.houseOf("h1 1023;" + "m0 0;".repeat(mirrors));
            for (int bit = mirrors; bit < 32; bit++) {
                s.is("round(1 << " + bit + ") of " + mirrors, x.round(1 << bit, Due.NONE), Due.UNKNOWN);
                s.is("round() with bit " + bit + " beside all of " + mirrors, x.round((1 << mirrors) - 1 | 1 << bit, 0), Due.UNKNOWN);
            }
            s.is("round(-1) of " + mirrors, x.round(-1, Due.NONE), Due.UNKNOWN);
            s.is("round() of all of " + mirrors, x.round((1 << mirrors) - 1, Due.NONE), mirrors);
        }
    }

    private static void anotherNumberOutOfItsBounds(Sentences s) {
        s.of("Terms", "OUTSIDE (another number out of its bounds)");
        GreetedMirrors x = Due.houseOf(Due.ROW);
        for (int what : Sentences.beyond(16)) {
            s.is("told(" + what + ")", x.told(what), Due.OUTSIDE);
        }
        for (int what : Sentences.beyond(5)) {
            s.is("mirror(0, " + what + ")", x.mirror(0, what), Due.OUTSIDE);
        }
        for (int what : Sentences.beyond(2)) {
            s.is("doorOf(0, " + what + ")", x.doorOf(0, what), Due.OUTSIDE);
            s.is("mostSeen(" + what + ")", x.mostSeen(what), Due.OUTSIDE);
        }
        for (int letter : Sentences.beyond(256)) {
            s.is("feed(" + letter + ")", x.feed(letter), Due.OUTSIDE);
        }
        for (int n : Sentences.beyond(41)) {
            s.is("drift(" + n + ")", x.drift(n), Due.OUTSIDE);
        }
        s.is("drift(0)", x.drift(0), Due.OUTSIDE);
        for (int n : Sentences.beyond(61)) {
            s.is("steamed(" + n + ", 0)", x.steamed(n, 0), Due.OUTSIDE);
        }
        for (int q : Sentences.beyond(101)) {
            s.is("steamed(0, " + q + ")", x.steamed(0, q), Due.OUTSIDE);
        }
        s.is("seed(-1)", x.seed(-1), Due.OUTSIDE);
        s.is("seed() of the least number", x.seed(Integer.MIN_VALUE), Due.OUTSIDE);
    }

    private static void notNowAndFull(Sentences s) {
        s.of("Terms", "NOT (not now, as told), FULL.");
        GreetedMirrors x = Due.houseOf("h2 1;d0 1;m1 0;");
        s.is("greet() from another ROOM", x.greet(0, 0), Due.NOT);
        x.step(1);
        s.is("greet() then", x.greet(0, 0), 1);
        s.is("goBack() of what was not kept", x.goBack(0), Due.NOT);
        x.keep(0);
        s.is("goBack() then", x.goBack(0), 1);
        for (int k = 1; k <= 8; k++) {
            s.is("ask(), time " + k, x.ask(0, 0, true), k);
        }
        s.is("ask() a ninth time", x.ask(0, 0, true), Due.FULL);
        x.tear();
        s.is("ask() then", x.ask(0, 0, true), 1);
    }

    private static void farBelow(Sentences s) {
        s.of("Terms", "They are far below all that is counted: -1000000001 and on.");
        s.is("UNKNOWN", GreetedMirrors.UNKNOWN, -1000000001);
        s.is("OUTSIDE", GreetedMirrors.OUTSIDE, -1000000002);
        s.is("NOT", GreetedMirrors.NOT, -1000000003);
        s.is("FULL", GreetedMirrors.FULL, -1000000004);
        s.is("UNKNOWN as it is answered", new GreetedMirrors().step(0), -1000000001);
        s.is("OUTSIDE as it is answered", new GreetedMirrors().feed(-1), -1000000002);
        s.is("NOT as it is answered", new GreetedMirrors().undo(), -1000000003);
    }

    /** Much has been done: all that calls can change is otherwise than at first; ASKED and THE BOOK are full. */
    private static GreetedMirrors busy() {
        GreetedMirrors x = Due.houseOf(Due.ROW);
        x.seed(77);
        x.greet(0, 1);
        x.keep(0);
        x.step(1);
        x.greet(2, 3);
        x.greet(1, 4);
        x.greet(1, 4);
        x.steam(2, true);
        x.door(0, true);
        x.walk(2, 1);
        for (int k = 0; k < 15; k++) {
            x.ask(k % 2, 5, false);
            x.write(0, 1);
        }
        Due.tell(x, "h1 1;m");
        return x;
    }

    /** All of section 2, in few calls, so that no object comes to more than 512 of them. */
    private static String shortSightOf(GreetedMirrors x) {
        StringBuilder sight = new StringBuilder();
        for (int what = 5; what <= 12; what++) {
            sight.append(x.told(what)).append(' ');
        }
        int mirrors = x.told(2);
        for (int m = 0; m < mirrors; m++) {
            sight.append(x.mirror(m, 1)).append(' ').append(x.mirror(m, 3)).append(' ').append(x.mirror(m, 4)).append(' ');
        }
        int persons = x.told(3);
        for (int p = 0; p < persons; p++) {
            sight.append(x.person(p)).append(' ');
        }
        return sight.toString();
    }

    /** All that can be told of it, down to what can be undone, the image, the seed and the text; nothing is left of it then. */
    private static String wholeSightOf(GreetedMirrors x) {
        StringBuilder sight = new StringBuilder();
        for (int what = 0; what <= 15; what++) {
            sight.append(x.told(what)).append(' ');
        }
        sight.append(x.fault()).append(' ').append(x.changed(-1)).append(' ').append(x.called(0)).append(' ').append(x.judge());
        for (int k = x.told(15); k >= 0; k--) {
            sight.append('\n').append(shortSightOf(x)).append(x.undo());
        }
        sight.append('\n').append(x.seed(3)).append(' ').append(x.goBack(0)).append(' ').append(x.seed(3)).append(' ');
        sight.append(shortSightOf(x)).append(x.goBack(1)).append(' ').append(x.house()).append(' ').append(x.fault());
        return sight.toString();
    }

    private static void compare(Sentences s, List<Refused> calls, Supplier<GreetedMirrors> made) {
        String untouched = wholeSightOf(made.get());
        for (Refused refused : calls) {
            GreetedMirrors x = made.get();
            s.is(refused.call + " is refused", refused.run.applyAsInt(x), refused.refusal);
            s.same("all is as it was behind " + refused.call, wholeSightOf(x), untouched);
        }
    }

    private static void refusedChangesNothing(Sentences s) {
        s.of("Terms", "What is refused changes nothing.");
        compare(s, List.of(
            new Refused("feed(-1)", Due.OUTSIDE, x -> x.feed(-1)),
            new Refused("feed(256)", Due.OUTSIDE, x -> x.feed(256)),
            new Refused("told(16)", Due.OUTSIDE, x -> x.told(16)),
            new Refused("mirror(6, 0)", Due.UNKNOWN, x -> x.mirror(6, 0)),
            new Refused("mirror(0, 5)", Due.OUTSIDE, x -> x.mirror(0, 5)),
            new Refused("doorOf(3, 0)", Due.UNKNOWN, x -> x.doorOf(3, 0)),
            new Refused("doorOf(0, 2)", Due.OUTSIDE, x -> x.doorOf(0, 2)),
            new Refused("person(3)", Due.UNKNOWN, x -> x.person(3)),
            new Refused("sees(0, 0)", Due.UNKNOWN, x -> x.sees(0, 0)),
            new Refused("step(4)", Due.UNKNOWN, x -> x.step(4)),
            new Refused("step(3), no DOOR", Due.NOT, x -> x.step(3)),
            new Refused("step(0), shut", Due.NOT, x -> x.step(0)),
            new Refused("greet(6, 1)", Due.UNKNOWN, x -> x.greet(6, 1)),
            new Refused("greet(1, 10)", Due.UNKNOWN, x -> x.greet(1, 10)),
            new Refused("greet(3, 4), another ROOM", Due.NOT, x -> x.greet(3, 4)),
            new Refused("greet(1, 9), not KNOWN", Due.NOT, x -> x.greet(1, 9)),
            new Refused("steam(4)", Due.UNKNOWN, x -> x.steam(4, true)),
            new Refused("door(3)", Due.UNKNOWN, x -> x.door(3, true)),
            new Refused("envelope(10)", Due.UNKNOWN, x -> x.envelope(10)),
            new Refused("walk(3, 0)", Due.UNKNOWN, x -> x.walk(3, 0)),
            new Refused("walk(0, 4)", Due.UNKNOWN, x -> x.walk(0, 4)),
            new Refused("drift(0)", Due.OUTSIDE, x -> x.drift(0)),
            new Refused("drift(41)", Due.OUTSIDE, x -> x.drift(41)),
            new Refused("round(64, NONE)", Due.UNKNOWN, x -> x.round(64, Due.NONE)),
            new Refused("steps(4)", Due.UNKNOWN, x -> x.steps(4)),
            new Refused("mostSeen(2)", Due.OUTSIDE, x -> x.mostSeen(2)),
            new Refused("steamed(61, 1)", Due.OUTSIDE, x -> x.steamed(61, 1)),
            new Refused("ask(6, 0)", Due.UNKNOWN, x -> x.ask(6, 0, true)),
            new Refused("ask(0, 10)", Due.UNKNOWN, x -> x.ask(0, 10, true)),
            new Refused("ask(0, 0), full", Due.FULL, x -> x.ask(0, 0, true)),
            new Refused("called(6)", Due.UNKNOWN, x -> x.called(6)),
            new Refused("write(6, 0)", Due.UNKNOWN, x -> x.write(6, 0)),
            new Refused("write(0, 10)", Due.UNKNOWN, x -> x.write(0, 10)),
            new Refused("write(0, 0), full", Due.FULL, x -> x.write(0, 0)),
            new Refused("seed(-1)", Due.OUTSIDE, x -> x.seed(-1)),
            new Refused("keep(2)", Due.UNKNOWN, x -> x.keep(2)),
            new Refused("goBack(2)", Due.UNKNOWN, x -> x.goBack(2)),
            new Refused("goBack(1), not kept", Due.NOT, x -> x.goBack(1))), BoundsOfTerms::busy);
    }

    private static void refusedChangesNothingInAFullText(Sentences s) {
        s.of("Terms", "What is refused changes nothing.");
        compare(s, List.of(
            new Refused("feed('x'), full", Due.FULL, x -> x.feed('x')),
            new Refused("feed(256), full", Due.OUTSIDE, x -> x.feed(256))), () -> {
                GreetedMirrors x = Due.houseOf("h2 1;d0 1;m0 0;p1;");
                x.step(1);
                Due.tell(x, "h1 0;" + " ".repeat(235));
                return x;
            });
    }

    private static void refusedChangesNothingWithoutRooms(Sentences s) {
        s.of("Terms", "What is refused changes nothing.");
        compare(s, List.of(
            new Refused("night(), no ROOMS", Due.NOT, x -> x.night()),
            new Refused("drift(1), no ROOMS", Due.NOT, x -> x.drift(1)),
            new Refused("goBack(1), not kept", Due.NOT, x -> x.goBack(1))), () -> {
                GreetedMirrors x = new GreetedMirrors();
                x.seed(5);
                x.keep(0);
                x.envelope(3);
                return x;
            });
        compare(s, List.of(new Refused("undo(), none", Due.NOT, x -> x.undo())), () -> {
            GreetedMirrors x = Due.houseOf(Due.ROW);
            x.greet(0, 1);
            x.keep(0);
            return x;
        });
    }

    private static void billion(Sentences s) {
        s.of("Terms", "BILLION is 1000000000.");
        s.is("steamed(0, 100)", new GreetedMirrors().steamed(0, 100), 1000000000);
    }
}
