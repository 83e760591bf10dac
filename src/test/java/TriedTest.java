/** Promises 19 to 24: tried. */
public final class TriedTest {
    private static final Due due = new Due("TriedTest");

    public static void main(String[] args) {
        promise19();
        promise19Names();
        promise19Opposite();
        promise19Likes();
        promise20();
        promise21();
        promise22();
        promise23();
        promise24();
        nothingChanges();
        due.end();
    }

    private static void rounds(GreetedMirrors x, int set, int breath, int... order) {
        due.is("19: breath of " + set, x.round(set, Due.NONE), breath);
        for (int i = 0; i < order.length; i++) {
            due.is("19: round(" + set + ", " + i + ")", x.round(set, i), order[i]);
        }
        due.is("19: behind the last of " + set, x.round(set, order.length), Due.NONE);
    }

    private static void promise19() {
        GreetedMirrors x = Due.houseOf(Due.ROW);
        rounds(x, 0, 0);
        rounds(x, 1, 1, 0);
        rounds(x, 31, 15, 0, 1, 2, 3, 4);
        rounds(x, 32, Due.NONE);
        x.envelope(7);
        rounds(x, 32, 4, 5);
        x.step(1);
        // To the left first (1), then to the right end (3): less than the other way round (2 + 3).
        rounds(x, 33, 1 + 1 + 3 + 1, 0, 5);
        x.greet(1, 2);
        // The lesser first, though mirror 2 is where one is: both take four steps.
        rounds(x, 39, 1 + 1 + 1 + 3 + 1, 0, 2, 5);
        x.greet(2, 3);
        rounds(x, 6, 0);
        due.is("19: no such", x.round(64, Due.NONE), Due.UNKNOWN);
        due.is("19: one of them not", x.round(65, 0), Due.UNKNOWN);
        due.is("19: a negative set", x.round(-1, Due.NONE), Due.UNKNOWN);
        due.is("19: the least set", x.round(Integer.MIN_VALUE, 0), Due.UNKNOWN);
        for (int odd : Due.ODD) {
            due.is("19: round(33, " + odd + ")", odd == -1 ? Due.NONE : x.round(33, odd), Due.NONE);
        }
        x.door(2, true);
        rounds(x, 32, Due.NONE);
        rounds(x, 33, Due.NONE);
        rounds(x, 1, 2, 0);
        due.is("19: a house without mirrors", Due.houseOf("h1 0;").round(1, 0), Due.UNKNOWN);
        due.is("19: nothing there", Due.houseOf("h1 0;").round(0, 0), Due.NONE);
    }

    private static void promise19Names() {
        GreetedMirrors x = Due.houseOf("h1 6;m0 1;m0 9;b1 7;b2 4;");
        rounds(x, 1, 7, 0);
        rounds(x, 3, Due.NONE);
        x.greet(0, 2);
        x.greet(0, 2);
        x.greet(0, 2);
        rounds(x, 1, 4, 0);
        x.greet(1, 1);
        x.greet(1, 1);
        x.greet(1, 1);
        rounds(x, 3, 11, 0, 1);
        x.greet(1, 1);
        rounds(x, 3, 4, 0);
    }

    private static void promise19Opposite() {
        GreetedMirrors x = Due.houseOf("h3 1023;d0 1;d1 2;m0 1;m2 2;m0 3;m1 4;m0 5;o4 0;");
        rounds(x, 1, 1, 0);
        rounds(x, 16, Due.NONE);
        rounds(x, 17, 2, 0, 4);
        rounds(x, 21, 3, 0, 2, 4);
        rounds(x, 31, 7, 0, 2, 4, 3, 1);
        x.greet(0, 1);
        rounds(x, 17, 1, 4);
        rounds(x, 20, 2, 2, 4);
        x.night();
        x.greet(4, 5);
        rounds(x, 1, Due.NONE);
        rounds(x, 17, Due.NONE);
        rounds(x, 4, 1, 2);

        // The earlier hung hangs on the left; one must not light the later on the way.
        GreetedMirrors y = Due.houseOf("h3 1023;d0 1;d1 2;m1 1;m2 2;m1 3;o0 2;");
        y.step(1);
        y.step(2);
        rounds(y, 7, 4, 1, 0, 2);
    }

    private static void promise19Likes() {
        GreetedMirrors x = Due.houseOf("h5 1;d0 4;d0 3;d0 2;d0 1;m4 0;m3 0;m2 0;m1 0;m0 0;");
        // Mirror 4 hangs where all ways cross: it is lit in passing, as late as that costs nothing.
        rounds(x, 31, 5 + 7, 0, 1, 2, 4, 3);
        rounds(x, 26, 3 + 3, 1, 4, 3);
        GreetedMirrors y = Due.houseOf("h4 1;d0 1;d1 2;d2 3;d3 0;m2 0;m1 0;m3 0;");
        // Both ways round the ring take three steps; mirror 1 is less than mirror 2.
        rounds(y, 7, 6, 1, 0, 2);
    }

    private static void promise20() {
        due.is("20: no mirrors", new GreetedMirrors().cannot(), 0);
        GreetedMirrors x = Due.houseOf(Due.ROW);
        due.is("20: a name and a later one", x.cannot(), 36);
        x.step(1);
        x.greet(1, 2);
        due.is("20: the later one can be", x.cannot(), 32);
        x.greet(2, 3);
        x.door(1, true);
        due.is("20: no way", x.cannot(), 56);
        x.envelope(7);
        x.door(1, false);
        due.is("20: all can be", x.cannot(), 0);
        x.night();
        x.greet(2, 3);
        due.is("20: spoilt", x.cannot(), 6);
        x.night();
        x.greet(1, 2);
        x.door(0, true);
        x.door(1, true);
        x.greet(1, 5);
        x.greet(1, 5);
        x.greet(1, 5);
        due.is("20: a lit one is none of them", x.cannot() & 2, 0);
        GreetedMirrors y = Due.houseOf("h2 1;m1 0;m0 0;m0 5;");
        due.is("20: from the room where one is", y.cannot(), 5);
        y.greet(1, 0);
        due.is("20: lit", y.cannot(), 5);
        GreetedMirrors z = Due.houseOf("h1 3;m0 0;m0 7;o0 1;");
        z.greet(0, 0);
        due.is("20: a name alone", z.cannot(), 2);
        z.greet(1, 1);
        z.greet(1, 1);
        z.greet(1, 1);
        due.is("20: its name now", z.cannot(), 0);
    }

    private static void promise21() {
        GreetedMirrors x = Due.houseOf("h7 0;d0 1;d1 2;d2 3;d3 4;d4 5;d5 0;");
        int[] want = {0, 1, 2, 3, 2, 1, Due.NONE};
        for (int room = 0; room < 7; room++) {
            due.is("21: steps(" + room + ")", x.steps(room), want[room]);
        }
        due.is("21: no such", x.steps(7), Due.UNKNOWN);
        for (int odd : Due.ODD) {
            due.is("21: steps(" + odd + ")", x.steps(odd), Due.UNKNOWN);
        }
        x.door(5, true);
        due.is("21: round the shut door", x.steps(5), 5);
        x.step(1);
        due.is("21: from where one is", x.steps(5), 4);
        x.door(2, true);
        due.is("21: no way", x.steps(5), Due.NONE);
        due.is("21: where one is", x.steps(1), 0);
        GreetedMirrors y = Due.houseOf("h7 0;d0 1;d1 2;d2 3;d3 4;d4 5;d5 6;");
        due.is("21: the longest way", y.steps(6), 6);
    }

    private static void most(GreetedMirrors x, int room, int many) {
        due.is("22: the room", x.mostSeen(0), room);
        due.is("22: how many", x.mostSeen(1), many);
    }

    private static void promise22() {
        most(new GreetedMirrors(), Due.NONE, Due.NONE);
        most(Due.houseOf("h2 0;p0;"), Due.NONE, Due.NONE);
        most(Due.houseOf("h3 0;m2 0;m1 0;"), 1, 0);
        GreetedMirrors x = Due.houseOf("h4 0;d0 1;d1 2;d2 3;m0 1;m2 4;m3 7;p0;p1;p3;p3;p2;");
        most(x, 2, 4);
        x.door(2, true);
        most(x, 0, 2);
        x.door(2, false);
        x.steam(2, true);
        most(x, 3, 3);
        x.steam(3, true);
        x.steam(1, true);
        most(x, 0, 2);
        x.steam(0, true);
        most(x, Due.NONE, Due.NONE);
        due.is("22: above", x.mostSeen(2), Due.OUTSIDE);
        due.is("22: below", x.mostSeen(-1), Due.OUTSIDE);
        for (int odd : Due.ODD) {
            due.is("22: mostSeen(" + odd + ")", x.mostSeen(odd), Due.OUTSIDE);
        }
        GreetedMirrors y = Due.houseOf("h2 3;m0 1;m0 0;o0 1;p0;p0;");
        y.greet(1, 0);
        due.is("22: spoilt", y.told(8), 3);
        most(y, 0, 2);
    }

    private static void promise23() {
        due.is("23: no mirrors", new GreetedMirrors().learn(), 0);
        GreetedMirrors x = Due.houseOf("h3 2;m0 1;m1 8;m0 5;m0 5;o2 3;");
        due.is("23: such as one cannot come to, too", x.learn(), 288);
        x.envelope(5);
        due.is("23: one less", x.learn(), 256);
        x.greet(3, 5);
        due.is("23: spoilt ones, too", x.learn(), 256);
        GreetedMirrors y = Due.houseOf("h1 12;m0 3;m0 1;");
        due.is("23: a name", y.learn(), 2);
        y.greet(1, 2);
        y.greet(1, 2);
        y.greet(1, 2);
        due.is("23: its name now", y.learn(), 0);
        GreetedMirrors z = Due.houseOf("h1 0;m0 1;m0 2;o0 1;");
        due.is("23: both", z.learn(), 6);
        z.seed(seedThatGreetsFirst(z));
        z.drift(1);
        due.is("23: the lit one is known by light", z.learn(), 4);
    }

    /** A seed by which the next evening lights mirror 0. */
    private static int seedThatGreetsFirst(GreetedMirrors z) {
        for (int seed = 0; seed < 200; seed++) {
            z.seed(seed);
            if (z.drift(1) == 1) {
                z.undo();
                return seed;
            }
            z.undo();
        }
        return 0;
    }

    private static void promise24() {
        GreetedMirrors x = new GreetedMirrors();
        due.is("24: no rooms", x.steamed(0, 100), 1000000000);
        due.is("24: one room", x.steamed(1, 30), 700000000);
        due.is("24: surely", x.steamed(1, 100), 0);
        due.is("24: never", x.steamed(60, 0), 1000000000);
        due.is("24: cut at each", x.steamed(6, 1), 941480148);
        due.is("24: cut at each, later", x.steamed(9, 33), cutAtEach(9, 33));
        due.is("24: sixty", x.steamed(60, 3), cutAtEach(60, 3));
        due.is("24: sixty halves", x.steamed(60, 50), 0);
        due.is("24: too many", x.steamed(61, 5), Due.OUTSIDE);
        due.is("24: too few", x.steamed(-1, 5), Due.OUTSIDE);
        due.is("24: too surely", x.steamed(5, 101), Due.OUTSIDE);
        due.is("24: too seldom", x.steamed(5, -1), Due.OUTSIDE);
        due.is("24: far outside", x.steamed(Integer.MAX_VALUE, Integer.MIN_VALUE), Due.OUTSIDE);
    }

    private static long cutAtEach(int n, int q) {
        long odds = 1000000000L;
        for (int k = 0; k < n; k++) {
            odds -= (odds * q + 99) / 100;
        }
        return odds;
    }

    private static void nothingChanges() {
        GreetedMirrors x = Due.houseOf(Due.ROW);
        x.greet(0, 1);
        x.greet(0, 3);
        String ahead = Due.sightOf(x);
        x.round(31, 2);
        x.round(99999, 2);
        x.cannot();
        x.steps(3);
        x.mostSeen(0);
        x.learn();
        x.steamed(3, 3);
        x.sees(0, 1);
        x.changed(Due.NONE);
        x.askNext();
        x.called(0);
        x.judge();
        due.same("19 to 28: nothing changes by what is tried", Due.sightOf(x), ahead);
        due.is("19 to 28: undone", x.told(15), 2);
        due.is("19 to 28: the seed", x.seed(0), 0);
    }
}
