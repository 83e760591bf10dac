/** Promises 1 to 9: the house. */
public final class HouseTest {
    private static final Due due = new Due("HouseTest");

    public static void main(String[] args) {
        promise1();
        promise2();
        promise3();
        promise3Bounds();
        promise3Faults();
        promise3KeepsAndClears();
        promise4();
        promise5();
        promise6();
        promise7();
        promise8();
        promise9();
        due.end();
    }

    private static void promise1() {
        GreetedMirrors x = new GreetedMirrors();
        for (int what = 0; what <= 15; what++) {
            due.is("1: told(" + what + ") of a new one", x.told(what), 0);
        }
        due.is("1: fault of a new one", x.fault(), Due.NONE);
        due.is("1: no room 0", x.steps(0), Due.UNKNOWN);
        due.is("1: the seed", x.seed(7), 0);
        due.is("1: no image", x.goBack(0), Due.NOT);
    }

    private static void promise2() {
        GreetedMirrors x = new GreetedMirrors();
        due.is("2: a letter", x.feed(0), 1);
        due.is("2: the last letter", x.feed(255), 2);
        due.is("2: below", x.feed(-1), Due.OUTSIDE);
        due.is("2: above", x.feed(256), Due.OUTSIDE);
        due.is("2: refused is not taken", x.told(4), 2);
        for (int n = 3; n <= 240; n++) {
            due.is("2: letter " + n, x.feed(' '), n);
        }
        due.is("2: full", x.feed(' '), Due.FULL);
        due.is("2: outside before full", x.feed(256), Due.OUTSIDE);
        due.is("2: 240 stay", x.told(4), 240);
    }

    private static void promise3() {
        GreetedMirrors x = new GreetedMirrors();
        due.is("3: an empty text", x.house(), 0);
        Due.tell(x, Due.ROW);
        due.is("3: the row", x.house(), 6);
        due.is("3: the text is gone", x.told(4), 0);
        Due.tell(x, "   ");
        due.is("3: blanks alone", x.house(), 0);
        due.is("3: no rooms by blanks", x.told(0), 0);
        due.is("3: nobody knows a name there", x.told(6), 0);
        due.is("3: many blanks", houseBy("  h  2   5 ;  d 0   1 ;m1 3  ;p   1; b 3 2; "), 1);
        due.is("3: leading zeros", houseBy("h0007 0063;d0000 0006;m06 09;"), 1);
        due.is("3: clauses in any order behind h", houseBy("h2 1;p1;b4 4;m1 1;m1 1;d1 0;o1 0;"), 2);
        due.is("3: the same name in two mirrors", houseBy("h1 1;m0 1;m0 1;"), 2);
    }

    private static int houseBy(String text) {
        GreetedMirrors x = new GreetedMirrors();
        Due.tell(x, text);
        return x.house();
    }

    private static void promise3Bounds() {
        due.is("3: seven rooms", houseBy("h7 1023;"), 0);
        due.is("3: eight doors", houseBy("h7 0;d0 1;d0 2;d0 3;d0 4;d0 5;d0 6;d1 2;d1 3;"), 0);
        due.is("3: seven mirrors", houseBy("h1 0;m0 0;m0 1;m0 2;m0 3;m0 4;m0 5;m0 9;o0 1;o2 3;o4 5;"), 7);
        due.is("3: five persons", houseBy("h1 0;p0;p0;p0;p0;p0;"), 0);
        due.is("3: breath of all names", houseBy("h1 0;b0 1;b1 9;b2 1;b3 1;b4 1;b5 1;b6 1;b7 1;b8 1;b9 9;"), 0);
    }

    private static void promise3Faults() {
        faulty("d0 1;", 1, 0);
        faulty("  m0 0;", 1, 2);
        faulty("x", 1, 0);
        faulty("h", 1, 1);
        faulty("h ", 1, 2);
        faulty("h1", 1, 2);
        faulty("h1 0", 1, 4);
        faulty("h1 0  ", 1, 6);
        faulty("h1;", 1, 2);
        faulty("h1 0;;", 1, 5);
        faulty("h1 0;x0;", 1, 5);
        faulty("h1 0;H1 0;", 1, 5);
        faulty("h1 0;5", 1, 5);
        faulty("h1 0 m0 0;", 1, 5);
        faulty("h1 0 0;", 1, 5);
        faulty("h-1 0;", 1, 1);
        faulty("h1\t0;", 1, 2);
        faulty("h1 0;" + (char) 0, 1, 5);
        faulty("h1 0;" + (char) 233, 1, 5);
        faulty("h1 0;m0h", 1, 7);
        faulty("h2 0;p;", 1, 6);
        faulty("h0 0;", 2, 1);
        faulty("h8 0;", 2, 1);
        faulty("h10;", 2, 1);
        faulty("h1 1024;", 2, 3);
        faulty("h1 00001;", 2, 3);
        faulty("h00001 1;", 2, 1);
        faulty("h1 1234567890123456789012;", 2, 3);
        faulty("h2 0;d2 0;", 2, 6);
        faulty("h2 0;d0 2;", 2, 8);
        faulty("h2 0;m2 0;", 2, 6);
        faulty("h2 0;m1 10;", 2, 8);
        faulty("h2 0;p2;", 2, 6);
        faulty("h2 0;o0 1;m0 0;m0 1;", 2, 6);
        faulty("h2 0;m0 0;o0 1;m0 1;", 2, 13);
        faulty("h1 0;b10 1;", 2, 6);
        faulty("h1 0;b9 0;", 2, 8);
        faulty("h1 0;b9 10;", 2, 8);
        faulty("h1 0; h1 0;", 3, 6);
        faulty("h7 0;d0 1;d0 2;d0 3;d0 4;d0 5;d0 6;d1 2;d1 3;d", 3, 45);
        faulty("h1 0;m0 0;m0 1;m0 2;m0 3;m0 4;m0 5;m0 9;m9;", 3, 40);
        faulty("h1 0;p0;p0;p0;p0;p0; px", 3, 21);
        faulty("h2 0;d1 1;", 4, 8);
        faulty("h2 0;d1  1x", 4, 9);
        faulty("h2 0;d0 1;d0 1;", 4, 13);
        faulty("h2 0;d0 1;d1 0;", 4, 13);
        faulty("h1 0;m0 0;m0 0;m0 0;o0 1;o2 0;", 4, 28);
        faulty("h1 0;m0 0;m0 0;m0 0;o0 1;o1 2;", 4, 26);
        faulty("h1 0;m0 0;o0 0;", 4, 13);
        faulty("h2 0;m0 0;m1 0;o0 1;", 4, 18);
        faulty("h1 0;b3 1;b4 1;b3 2;", 4, 16);
        faulty("h1 0;b3 1;b3 99", 4, 11);
    }

    private static void faulty(String text, int kind, int place) {
        GreetedMirrors x = new GreetedMirrors();
        Due.tell(x, text);
        due.is("3: house of " + text, x.house(), -10 - kind);
        due.is("4: fault of " + text, x.fault(), place);
        due.is("3: the text is gone with a fault, too: " + text, x.told(4), 0);
        due.is("3: no rooms by a fault: " + text, x.told(0), 0);
    }

    private static void promise3KeepsAndClears() {
        GreetedMirrors x = Due.houseOf(Due.ROW);
        x.seed(5);
        x.keep(1);
        x.ask(0, 1, true);
        x.write(0, 1);
        x.write(1, 1);
        x.greet(0, 1);
        x.step(1);
        x.greet(2, 3);
        x.greet(1, 9);
        x.steam(2, true);
        x.door(2, true);
        x.envelope(9);
        x.greet(1, 9);
        x.walk(2, 1);
        x.night();
        String ahead = Due.sightOf(x);
        Due.tell(x, "h1 0;m0 0;b1 1;h");
        due.is("3: a fault", x.house(), -13);
        due.same("3: by a fault all is as it was", Due.sightOf(x), ahead);
        due.is("3: asked is as it was", x.told(13), 1);
        due.is("3: the book is as it was", x.told(14), 2);
        due.is("3: undone is as it was", x.told(15), 9);
        due.is("3: rooms are as they were", x.told(0), 4);
        due.is("3: opposite is as it was", x.mirror(1, 2), 2);
        due.is("3: undo after a fault", x.undo(), 8);
        due.is("3: the image after a fault", x.goBack(1), 1);
        x.greet(0, 1);
        x.greet(0, 5);
        x.step(1);
        x.night();
        x.greet(2, 3);
        x.greet(1, 5);
        x.greet(1, 5);
        x.steam(3, true);
        x.door(0, true);
        x.walk(1, 3);
        x.keep(0);
        x.keep(1);
        x.night();
        x.door(0, false);
        x.step(0);
        x.greet(0, 1);
        x.step(1);
        x.door(0, true);
        x.greet(2, 3);
        x.steam(3, true);
        due.is("3: something is lit ahead of it", x.told(7), 1);
        Due.tell(x, Due.ROW);
        due.is("3: the same house again", x.house(), 6);
        due.same("3: all is new", Due.sightOf(x), Due.sightOf(Due.houseOf(Due.ROW)));
        due.is("3: nothing asked", x.told(13), 0);
        due.is("3: no book", x.told(14), 0);
        due.is("3: nothing to undo", x.told(15), 0);
        due.is("3: undo after it", x.undo(), Due.NOT);
        due.is("3: no image 0", x.goBack(0), Due.NOT);
        due.is("3: no image 1", x.goBack(1), Due.NOT);
        due.is("3: the seed stays", x.seed(1), 5);
        Due.tell(x, "h1 0;m0 0;m0 1;");
        due.is("3: a third house", x.house(), 2);
        due.is("3: no pair of a house ahead", x.mirror(1, 2), Due.NONE);
        due.is("3: no door of a house ahead", x.doorOf(0, 0), Due.UNKNOWN);
        due.is("3: no persons of a house ahead", x.told(3), 0);
        Due.tell(x, "h1 4;m0 2;");
        due.is("3: a fourth house", x.house(), 1);
        due.is("3: no breath of a house ahead", x.round(1, Due.NONE), 1);
        Due.tell(x, "h1 1023;b2 5;");
        x.house();
        x.house();
        due.is("3: an empty text again", x.told(0), 0);
        due.is("3: no names of a house ahead", x.told(6), 0);
        Due.tell(x, "h1 0;b2 5;");
        due.is("3: breath is told once in each house", x.house(), 0);
    }

    private static void promise4() {
        GreetedMirrors x = new GreetedMirrors();
        due.is("4: none as yet", x.fault(), Due.NONE);
        Due.tell(x, "h1 0;b1 1;b1 1;");
        x.house();
        due.is("4: at the name", x.fault(), 11);
        x.feed('h');
        due.is("4: of the latest house, not of the text", x.fault(), 11);
        x.house();
        due.is("4: at the end", x.fault(), 1);
        Due.tell(x, "h1 0;");
        due.is("4: a house without", x.house(), 0);
        due.is("4: none", x.fault(), Due.NONE);
    }

    private static void promise5() {
        GreetedMirrors x = Due.houseOf(Due.ROW);
        x.feed('h');
        x.greet(0, 1);
        x.step(1);
        x.step(2);
        x.greet(3, 4);
        x.step(1);
        x.greet(2, 3);
        x.steam(3, true);
        x.door(1, true);
        x.envelope(9);
        int[] want = {4, 3, 6, 3, 1, 1, 575, 9, 6, 8, 2, 8, 0, 0, 0, 9};
        for (int what = 0; what < want.length; what++) {
            due.is("5: told(" + what + ")", x.told(what), want[what]);
        }
        x.night();
        x.ask(0, 1, true);
        x.write(0, 1);
        x.write(0, 1);
        due.is("5: nights", x.told(12), 1);
        due.is("5: asked", x.told(13), 1);
        due.is("5: entries", x.told(14), 2);
        due.is("5: above", x.told(16), Due.OUTSIDE);
        for (int odd : Due.ODD) {
            due.is("5: told(" + odd + ")", odd == 10 ? Due.OUTSIDE : x.told(odd), Due.OUTSIDE);
        }
    }

    private static void promise6() {
        GreetedMirrors x = Due.houseOf(Due.ROW);
        int[][] want = {{0, 1, -1, -1, 0}, {1, 2, 2, -1, 0}, {1, 3, 1, -1, 0}, {2, 4, -1, -1, 0}, {2, 4, -1, -1, 0}, {3, 7, -1, -1, 0}};
        for (int m = 0; m < 6; m++) {
            for (int what = 0; what < 5; what++) {
                due.is("6: mirror(" + m + ", " + what + ")", x.mirror(m, what), want[m][what]);
            }
        }
        x.greet(0, 5);
        due.is("6: by which other name", x.mirror(0, 3), 5);
        due.is("6: once", x.mirror(0, 4), 1);
        x.greet(0, 5);
        due.is("6: twice", x.mirror(0, 4), 2);
        x.greet(0, 5);
        due.is("6: its name now", x.mirror(0, 1), 5);
        due.is("6: the count is over", x.mirror(0, 3), Due.NONE);
        due.is("6: how often then", x.mirror(0, 4), 0);
        due.is("6: no such", x.mirror(6, 0), Due.UNKNOWN);
        due.is("6: above", x.mirror(5, 5), Due.OUTSIDE);
        due.is("6: below", x.mirror(5, -1), Due.OUTSIDE);
        due.is("6: unknown before outside", x.mirror(6, 9), Due.UNKNOWN);
        for (int odd : Due.ODD) {
            due.is("6: mirror(" + odd + ", 0)", x.mirror(odd, 0), Due.UNKNOWN);
            due.is("6: mirror(0, " + odd + ")", x.mirror(0, odd), Due.OUTSIDE);
        }
    }

    private static void promise7() {
        GreetedMirrors x = Due.houseOf("h7 0;d0 6;d5 2;");
        due.is("7: A", x.doorOf(0, 0), 0);
        due.is("7: B", x.doorOf(0, 1), 6);
        due.is("7: as told", x.doorOf(1, 0), 5);
        due.is("7: as told, B", x.doorOf(1, 1), 2);
        x.door(0, true);
        due.is("7: a shut one", x.doorOf(0, 1), 6);
        due.is("7: no such", x.doorOf(2, 0), Due.UNKNOWN);
        due.is("7: above", x.doorOf(1, 2), Due.OUTSIDE);
        due.is("7: unknown before outside", x.doorOf(2, 2), Due.UNKNOWN);
        for (int odd : Due.ODD) {
            due.is("7: doorOf(" + odd + ", 0)", x.doorOf(odd, 0), Due.UNKNOWN);
            due.is("7: doorOf(0, " + odd + ")", x.doorOf(0, odd), Due.OUTSIDE);
        }
    }

    private static void promise8() {
        GreetedMirrors x = Due.houseOf("h3 0;p2;p0;");
        due.is("8: the first", x.person(0), 2);
        due.is("8: the second", x.person(1), 0);
        x.walk(1, 1);
        due.is("8: he walked", x.person(1), 1);
        due.is("8: no such", x.person(2), Due.UNKNOWN);
        for (int odd : Due.ODD) {
            due.is("8: person(" + odd + ")", x.person(odd), Due.UNKNOWN);
        }
    }

    private static void promise9() {
        GreetedMirrors x = Due.houseOf("h4 1023;d0 1;d2 1;d2 3;m0 1;m1 2;m1 3;o1 2;p0;p0;p1;p2;");
        due.is("9: nothing lit", x.sees(0, 1), 0);
        x.greet(0, 1);
        due.is("9: in that room", x.sees(0, 1), 1);
        due.is("9: the other one, too", x.sees(1, 0), 1);
        due.is("9: one door away", x.sees(0, 2), 1);
        due.is("9: two doors away", x.sees(0, 3), 0);
        due.is("9: no light in his own room", x.sees(2, 0), 0);
        x.steam(1, true);
        due.is("9: steam there where the other is", x.sees(0, 2), 1);
        x.steam(0, true);
        due.is("9: steam in his room", x.sees(0, 1), 0);
        x.steam(0, false);
        x.door(0, true);
        due.is("9: shut", x.sees(0, 2), 0);
        due.is("9: shut, in that room", x.sees(0, 1), 1);
        x.door(0, false);
        x.steam(1, false);
        x.step(1);
        x.greet(2, 3);
        due.is("9: spoilt ones show nothing", x.sees(2, 0), 0);
        x.night();
        due.is("9: night", x.sees(0, 1), 0);
        x.greet(1, 2);
        due.is("9: through a door told the other way", x.sees(2, 3), 1);
        due.is("9: one twice", x.sees(2, 2), Due.UNKNOWN);
        due.is("9: no such", x.sees(0, 4), Due.UNKNOWN);
        for (int odd : Due.ODD) {
            due.is("9: sees(" + odd + ", 0)", x.sees(odd, 0), Due.UNKNOWN);
            due.is("9: sees(0, " + odd + ")", x.sees(0, odd), Due.UNKNOWN);
        }
    }
}
