/** Promises 10 to 18: what is done. */
public final class DoneTest {
    private static final Due due = new Due("DoneTest");

    public static void main(String[] args) {
        promise10();
        promise11();
        promise11Opposite();
        promise11Count();
        promise11CountBesideLight();
        promise12();
        promise13();
        promise14();
        promise15();
        promise16();
        promise17();
        promise17Full();
        promise18();
        promise18Each();
        due.end();
    }

    private static void promise10() {
        GreetedMirrors x = Due.houseOf(Due.ROW);
        due.is("10: a step", x.step(1), 1);
        due.is("10: a step back", x.step(0), 2);
        due.is("10: one is there", x.told(5), 0);
        due.is("10: no door", x.step(2), Due.NOT);
        due.is("10: to where one is", x.step(0), Due.NOT);
        due.is("10: no such", x.step(4), Due.UNKNOWN);
        for (int odd : Due.ODD) {
            due.is("10: step(" + odd + ")", x.step(odd), Due.UNKNOWN);
        }
        x.door(0, true);
        due.is("10: shut", x.step(1), Due.NOT);
        due.is("10: refused takes no breath", x.told(11), 2);
        due.is("10: refused leaves nothing to undo", x.told(15), 3);
        x.door(0, false);
        due.is("10: not shut any more", x.step(1), 3);
    }

    /** More than 512 calls, since breath is not above its bound before; this program answers then, too. */
    private static void outOfBreath(GreetedMirrors x) {
        for (int k = 0; k < 10000; k++) {
            x.greet(0, 2);
        }
        due.is("11: breath at its bound", x.told(11), 90000);
    }

    private static void promise11() {
        GreetedMirrors x = Due.houseOf("h2 7;d0 1;m0 1;m1 2;b2 9;");
        due.is("11: by another name", x.greet(0, 2), 0);
        due.is("11: the breath of that name", x.told(11), 9);
        due.is("11: by its name", x.greet(0, 1), 1);
        due.is("11: the breath of a name untold", x.told(11), 10);
        due.is("11: lit", x.told(7), 1);
        due.is("11: it is lit already", x.greet(0, 1), 0);
        due.is("11: breath all the same", x.told(11), 11);
        due.is("11: in another room", x.greet(1, 2), Due.NOT);
        due.is("11: a name one does not know", x.greet(0, 3), Due.NOT);
        due.is("11: no such mirror", x.greet(2, 1), Due.UNKNOWN);
        due.is("11: no such name", x.greet(0, 10), Due.UNKNOWN);
        due.is("11: unknown before not", x.greet(1, 10), Due.UNKNOWN);
        for (int odd : Due.ODD) {
            due.is("11: greet(" + odd + ", 1)", x.greet(odd, 1), Due.UNKNOWN);
            due.is("11: greet(0, " + odd + ")", x.greet(0, odd), Due.UNKNOWN);
        }
        due.is("11: refused takes no breath", x.told(11), 11);
        due.is("11: refused counts nothing", x.mirror(0, 4), 0);
        x.steam(0, true);
        x.night();
        x.steam(0, true);
        due.is("11: steam does not keep it from being lit", x.greet(0, 1), 1);

        GreetedMirrors y = Due.houseOf("h2 7;d0 1;m0 1;m1 2;b2 9;");
        outOfBreath(y);
        due.is("11: greeted at the bound", y.greet(0, 1), 0);
        due.is("11: breath above the bound", y.told(11), 90001);
        due.is("11: above the bound in that room", y.greet(0, 1), Due.FULL);
        y.undo();
        due.is("10: a step at the bound", y.step(1), 90001);
        due.is("10: above the bound", y.step(0), Due.FULL);
        due.is("10: not before full", y.step(1), Due.NOT);
        due.is("11: above the bound", y.greet(1, 2), Due.FULL);
        due.is("11: not before full", y.greet(0, 2), Due.NOT);
        due.is("11: refused above the bound", y.told(11), 90001);
        due.is("11: nothing lit above the bound", y.told(7), 1);
    }

    private static void promise11Opposite() {
        GreetedMirrors x = Due.houseOf("h1 1023;m0 1;m0 2;m0 3;m0 4;o3 1;");
        due.is("11: the later first", x.greet(3, 4), 0);
        due.is("11: both are spoilt", x.told(8), 10);
        due.is("11: none is lit", x.told(7), 0);
        due.is("11: the earlier is spoilt", x.greet(1, 2), 0);
        due.is("11: the later stays spoilt", x.greet(3, 4), 0);
        due.is("11: still none is lit", x.told(7), 0);
        due.is("11: till night", x.night(), 1);
        due.is("11: no more spoilt", x.told(8), 0);
        due.is("11: by another name the later spoils nothing", x.greet(3, 5), 0);
        due.is("11: nothing spoilt", x.told(8), 0);
        due.is("11: the earlier first", x.greet(1, 2), 1);
        due.is("11: the later then", x.greet(3, 4), 1);
        due.is("11: both are lit", x.told(7), 10);
        due.is("11: the later again", x.greet(3, 4), 0);
        due.is("11: nothing is spoilt by that", x.told(8), 0);
        due.is("11: one that hangs alone", x.greet(2, 3), 1);
    }

    private static void promise11Count() {
        GreetedMirrors x = Due.houseOf("h2 1023;d0 1;m0 1;m0 2;m1 3;");
        x.greet(0, 5);
        x.greet(1, 6);
        x.greet(0, 5);
        due.is("11: each mirror counts for itself", x.mirror(0, 4), 2);
        due.is("11: the other's count", x.mirror(1, 3), 6);
        x.night();
        due.is("11: over nights, too", x.mirror(0, 4), 2);
        due.is("11: the third time lights nothing", x.greet(0, 5), 0);
        due.is("11: it has that name", x.mirror(0, 1), 5);
        due.is("11: the count is over", x.mirror(0, 4), 0);
        due.is("11: it answers to it", x.greet(0, 5), 1);
        x.greet(1, 6);
        x.greet(1, 7);
        due.is("11: another one begins with 1", x.mirror(1, 4), 1);
        due.is("11: that other one", x.mirror(1, 3), 7);
        x.greet(1, 7);
        due.is("11: by its own name", x.greet(1, 2), 1);
        due.is("11: that count is over", x.mirror(1, 3), Due.NONE);
        due.is("11: how often is over", x.mirror(1, 4), 0);
        x.greet(1, 7);
        due.is("11: it begins anew", x.mirror(1, 4), 1);
        due.is("11: it has its name still", x.mirror(1, 1), 2);
    }

    private static void promise11CountBesideLight() {
        GreetedMirrors x = Due.houseOf("h1 1023;m0 1;m0 2;o0 1;");
        x.greet(0, 1);
        x.greet(0, 4);
        x.greet(0, 4);
        x.greet(0, 4);
        due.is("11: a lit one takes a name, too", x.mirror(0, 1), 4);
        due.is("11: it stays lit", x.told(7), 1);
        x.greet(0, 9);
        x.greet(0, 4);
        due.is("11: its own name ends the count of a lit one", x.mirror(0, 4), 0);
        x.night();
        x.greet(1, 2);
        x.greet(1, 8);
        x.greet(1, 8);
        due.is("11: a spoilt one counts, too", x.mirror(1, 4), 2);
        x.greet(1, 2);
        due.is("11: its own name ends the count of a spoilt one", x.mirror(1, 4), 0);
        x.night();
        x.greet(1, 8);
        x.greet(1, 2);
        due.is("11: spoiling ends the count, too", x.mirror(1, 4), 0);
        due.is("11: both spoilt again", x.told(8), 3);
    }

    private static void promise12() {
        GreetedMirrors x = Due.houseOf(Due.ROW);
        due.is("12: steam", x.steam(3, true), 0);
        due.is("12: there was", x.steam(3, true), 1);
        x.steam(0, true);
        due.is("12: rooms with steam", x.told(9), 9);
        due.is("12: none", x.steam(3, false), 1);
        due.is("12: there was none", x.steam(3, false), 0);
        due.is("12: the other room keeps it", x.told(9), 1);
        due.is("12: no such", x.steam(4, true), Due.UNKNOWN);
        for (int odd : Due.ODD) {
            due.is("12: steam(" + odd + ")", x.steam(odd, true), Due.UNKNOWN);
        }
        due.is("12: refused changes nothing", x.told(9), 1);
    }

    private static void promise13() {
        GreetedMirrors x = Due.houseOf(Due.ROW);
        due.is("13: shut", x.door(2, true), 0);
        due.is("13: it was", x.door(2, true), 1);
        x.door(0, true);
        due.is("13: shut ones", x.told(10), 5);
        due.is("13: not", x.door(2, false), 1);
        due.is("13: it was not", x.door(2, false), 0);
        due.is("13: the other stays", x.told(10), 1);
        due.is("13: no such", x.door(3, true), Due.UNKNOWN);
        for (int odd : Due.ODD) {
            due.is("13: door(" + odd + ")", x.door(odd, true), Due.UNKNOWN);
        }
        x.night();
        due.is("13: doors stay over a night", x.told(10), 1);
    }

    private static void promise14() {
        due.is("14: no rooms", new GreetedMirrors().night(), Due.NOT);
        GreetedMirrors x = Due.houseOf(Due.ROW);
        x.greet(0, 1);
        x.step(1);
        x.greet(2, 3);
        x.steam(2, true);
        x.walk(0, 3);
        due.is("14: a night", x.night(), 1);
        due.is("14: nothing lit", x.told(7), 0);
        due.is("14: nothing spoilt", x.told(8), 0);
        due.is("14: no steam", x.told(9), 0);
        due.is("14: one stays where one is", x.told(5), 1);
        due.is("14: breath stays", x.told(11), 3);
        due.is("14: names stay known", x.told(6), 63);
        due.is("14: persons stay", x.person(0), 3);
        due.is("14: another one", x.night(), 2);
        for (int k = 3; k <= 9001; k++) {
            x.night();
        }
        due.is("14: nights", x.told(12), 9001);
        due.is("14: above the bound", x.night(), Due.FULL);
        due.is("14: refused", x.told(12), 9001);
    }

    private static void promise15() {
        GreetedMirrors x = Due.houseOf(Due.ROW);
        due.is("15: a name more", x.envelope(9), 575);
        due.is("15: one that is known", x.envelope(0), 575);
        due.is("15: no such", x.envelope(10), Due.UNKNOWN);
        for (int odd : Due.ODD) {
            due.is("15: envelope(" + odd + ")", x.envelope(odd), Due.UNKNOWN);
        }
        due.is("15: known", x.told(6), 575);
        due.is("15: without rooms", new GreetedMirrors().envelope(0), 1);
    }

    private static void promise16() {
        GreetedMirrors x = Due.houseOf(Due.ROW);
        x.door(0, true);
        due.is("16: to any room", x.walk(0, 3), 0);
        due.is("16: from there", x.walk(0, 3), 3);
        due.is("16: he is there", x.person(0), 3);
        due.is("16: the others are where they were", x.person(1), 1);
        due.is("16: no such person", x.walk(3, 0), Due.UNKNOWN);
        due.is("16: no such room", x.walk(0, 4), Due.UNKNOWN);
        for (int odd : Due.ODD) {
            due.is("16: walk(" + odd + ", 0)", x.walk(odd, 0), Due.UNKNOWN);
            due.is("16: walk(0, " + odd + ")", x.walk(0, odd), Due.UNKNOWN);
        }
        due.is("16: refused changes nothing", x.person(0), 3);
    }

    private static void promise17() {
        due.is("17: no rooms", new GreetedMirrors().drift(1), Due.NOT);
        due.is("17: outside before not", new GreetedMirrors().drift(0), Due.OUTSIDE);
        GreetedMirrors x = Due.houseOf(Due.ROW);
        due.is("17: none", x.drift(0), Due.OUTSIDE);
        due.is("17: too many", x.drift(41), Due.OUTSIDE);
        for (int odd : Due.ODD) {
            int want = odd == 10 || odd == 31 || odd == 32 || odd == 33 ? 0 : Due.OUTSIDE;
            due.is("17: drift(" + odd + ")", want == 0 ? 0 : x.drift(odd), want);
        }
        due.is("17: refused draws nothing", x.seed(0), 0);
        // From 0 on the first draw of 3 is 0, then one of 4 rooms.
        due.is("17: an evening", x.drift(1), 0);
        due.is("17: steam in a room drawn", x.told(9), 1 << draw(1, 4));
        due.is("17: two draws", x.seed(0), seedAfter(2));
    }

    /** The k-th seed behind 0. */
    private static long seedAfter(int k) {
        long seed = 0;
        for (int i = 0; i < k; i++) {
            seed = (seed * 1103515245L + 12345L) % 2147483648L;
        }
        return seed;
    }

    private static int draw(int k, int n) {
        return (int) (seedAfter(k + 1) / 65536 % n);
    }

    private static void promise17Full() {
        GreetedMirrors bare = Due.houseOf("h3 0;");
        due.is("17: without persons and mirrors", bare.drift(40), 0);
        int draws = 0;
        int steamed = 0;
        for (int evening = 0; evening < 40; evening++) {
            int kind = draw(draws++, 3);
            if (kind == 0) {
                steamed |= 1 << draw(draws++, 3);
            }
        }
        due.is("17: steam of forty evenings", bare.told(9), steamed);
        due.is("17: no draw for what there is not", bare.seed(0), seedAfter(draws));

        promise17Persons();
        GreetedMirrors x = Due.houseOf("h2 0;m0 1;m1 2;m1 3;o1 2;");
        x.drift(40);
        due.is("17: no breath", x.told(11), 0);
        due.is("17: each is lit or spoilt by it", x.told(7) | x.told(8), 7);
        GreetedMirrors y = Due.houseOf("h1 6;m0 1;");
        y.greet(0, 2);
        y.drift(40);
        due.is("17: its own name ends the count", y.mirror(0, 4), 0);
        due.is("17: one undo for all of it", y.undo(), 1);
        due.is("17: the count is back", y.mirror(0, 4), 1);
    }

    private static void promise17Persons() {
        GreetedMirrors x = Due.houseOf("h5 0;p0;p0;p0;m3 0;m4 1;m4 2;m1 3;");
        int seen = x.drift(30);
        int draws = 0;
        int steamed = 0;
        int lit = 0;
        int[] rooms = new int[3];
        for (int evening = 0; evening < 30; evening++) {
            int kind = draw(draws++, 3);
            if (kind == 0) {
                steamed |= 1 << draw(draws++, 5);
            } else if (kind == 1) {
                int p = draw(draws++, 3);
                rooms[p] = draw(draws++, 5);
            } else {
                lit |= 1 << draw(draws++, 4);
            }
        }
        due.is("17: lit ones", seen, lit);
        due.is("17: steam beside persons", x.told(9), steamed);
        due.is("17: draws for persons", x.seed(0), seedAfter(draws));
        for (int p = 0; p < 3; p++) {
            due.is("17: where person " + p + " walked", x.person(p), rooms[p]);
        }
        // By seed 5 the first draw of 3 is 1: a single person walks, by the third draw.
        GreetedMirrors y = Due.houseOf("h7 0;p0;");
        y.seed(5);
        y.drift(1);
        long third = next(next(next(5)));
        due.is("17: seed 5 draws a walk", next(5) / 65536 % 3, 1);
        due.is("17: he walks there", y.person(0), third / 65536 % 7);
        due.is("17: three draws", y.seed(0), third);
    }

    private static long next(long seed) {
        return (seed * 1103515245L + 12345L) % 2147483648L;
    }

    private static void promise18() {
        GreetedMirrors x = Due.houseOf(Due.ROW);
        due.is("18: none", x.undo(), Due.NOT);
        for (int k = 0; k < 25; k++) {
            x.envelope(9);
            due.is("18: how many are kept", x.told(15), Math.min(20, k + 1));
        }
        GreetedMirrors y = Due.houseOf(Due.ROW);
        for (int k = 1; k <= 25; k++) {
            y.step(k % 2);
        }
        for (int k = 19; k >= 0; k--) {
            due.is("18: how many more", y.undo(), k);
            due.is("18: breath as ahead of it", y.told(11), k + 5);
            due.is("18: the room as ahead of it", y.told(5), (k + 5) % 2);
        }
        due.is("18: the oldest are lost", y.undo(), Due.NOT);
        due.is("18: it stays there", y.told(11), 5);
        y.step(0);
        due.is("18: a new one", y.undo(), 0);
        due.is("18: undone", y.told(11), 5);
    }

    private static void promise18Each() {
        String text = "h4 63;d0 1;d1 2;m0 1;m1 2;m1 3;o1 2;b2 5;p0;p3;";
        for (int kind = 0; kind < 8; kind++) {
            GreetedMirrors x = Due.houseOf(text);
            x.greet(0, 1);
            x.step(1);
            x.greet(1, 4);
            x.steam(3, true);
            x.door(1, true);
            String ahead = Due.sightOf(x);
            doOne(x, kind);
            due.is("18: kind " + kind + " can be undone", x.told(15), 6);
            due.is("18: kind " + kind + " is undone", x.undo(), 5);
            due.same("18: all is as ahead of kind " + kind, Due.sightOf(x), ahead);
        }
        GreetedMirrors x = Due.houseOf(text);
        x.drift(3);
        int seed = x.seed(11);
        due.is("18: the seed was drawn by", seed == 0 ? 1 : 0, 0);
        x.seed(seed);
        x.undo();
        due.is("18: the seed stays", x.seed(0), seed);
        x.ask(0, 1, true);
        x.write(0, 1);
        due.is("18: asking and writing leave nothing to undo", x.told(15), 0);
        x.steam(0, false);
        due.is("18: one that changes nothing can be undone, too", x.told(15), 1);
        x.undo();
        due.is("18: what was asked stays", x.told(13), 1);
        due.is("18: the book stays", x.told(14), 1);
    }

    private static void doOne(GreetedMirrors x, int kind) {
        switch (kind) {
            case 0 -> x.step(0);
            case 1 -> x.greet(2, 3);
            case 2 -> x.steam(3, false);
            case 3 -> x.door(1, false);
            case 4 -> x.night();
            case 5 -> x.envelope(8);
            case 6 -> x.walk(1, 0);
            default -> x.drift(40);
        }
    }
}
