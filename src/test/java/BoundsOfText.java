/** Section 1 of the Terms: THE HOUSE in its text, its bounds and its FAULTS. */
final class BoundsOfText {
    private static final String EIGHT_DOORS = "h7 0;d0 1;d0 2;d0 3;d0 4;d0 5;d0 6;d1 2;d1 3;";
    private static final String SEVEN_MIRRORS = "h2 0;m0 0;m0 1;m0 2;m0 3;m0 4;m0 5;m0 6;";
    private static final String FIVE_PERSONS = "h2 0;p0;p1;p0;p1;p0;";
    private static final String FOUR_MIRRORS = "h2 0;m0 0;m0 1;m0 2;m1 3;";

    private BoundsOfText() {
    }

    static void all(Sentences s) {
        letters240AtMost(s);
        rooms(s);
        namesThatOneKnows(s);
        firstOnce(s);
        doors(s);
        mirrors(s);
        opposite(s);
        breath(s);
        persons(s);
        figures(s);
        aWordIsOneLetter(s);
        blanks(s);
        twoNumbersSideBySide(s);
        atTheFirstLetter(s);
        theEnd(s);
        ofTheseTheLeast(s);
        aLetterThatIsNoWord(s);
        aLetterInThePlaceOfAnother(s);
        anotherWordFirst(s);
        outOfItsBounds(s);
        roomsAndMirrorsThatThereAreNot(s);
        atItsFirst(s);
        oneTooMany(s);
        clashesOfDoors(s);
        clashesOfPairs(s);
        clashesOfBreath(s);
        anEmptyText(s);
    }

    private static GreetedMirrors fine(Sentences s, String text, int mirrors) {
        GreetedMirrors x = new GreetedMirrors();
        Due.tell(x, text);
        s.is("house() of [" + text + "]", x.house(), mirrors);
        s.is("fault() of [" + text + "]", x.fault(), Due.NONE);
        return x;
    }

    private static void faulty(Sentences s, String text, int kind, int place) {
        GreetedMirrors x = new GreetedMirrors();
        Due.tell(x, text);
        s.is("house() of [" + text + "]", x.house(), -10 - kind);
        s.is("fault() of [" + text + "]", x.fault(), place);
    }

    private static void letters240AtMost(Sentences s) {
        s.of("Terms 1", "THE HOUSE is told in a text (240 letters at most)");
        String most = "h2 0;" + " ".repeat(229);
        fine(s, most + "m1 9; ", 1);
        GreetedMirrors x = fine(s, most + " m1 9;", 1);
        s.is("the MIRROR told by the last letters of 240", x.mirror(0, 0), 1);
        s.is("its NAME", x.mirror(0, 1), 9);
        GreetedMirrors y = new GreetedMirrors();
        Due.tell(y, most + "  m1 9");
        s.is("the 241st letter", y.feed(';'), Due.FULL);
        s.is("house() without it", y.house(), -11);
        s.is("the FAULT is at the end of 240", y.fault(), 240);
    }

    private static void rooms(Sentences s) {
        s.of("Terms 1", "(ROOMS 0 .. R less 1, R 1 .. 7;");
        faulty(s, "h0 0;", 2, 1);
        s.is("one ROOM", fine(s, "h1 0;", 0).told(0), 1);
        s.is("seven ROOMS", fine(s, "h7 0;", 0).told(0), 7);
        faulty(s, "h8 0;", 2, 1);
        s.is("the last ROOM is R less 1", fine(s, "h7 0;p6;", 0).person(0), 6);
        faulty(s, "h7 0;p7;", 2, 6);
        s.is("the last of one is ROOM 0", fine(s, "h1 0;p0;", 0).person(0), 0);
        faulty(s, "h1 0;p1;", 2, 6);
    }

    private static void namesThatOneKnows(Sentences s) {
        s.of("Terms 1", "one KNOWS the NAMES of K, 0 .. 1023, a SET of 0 to 9;");
        s.is("none", fine(s, "h1 0;", 0).told(6), 0);
        s.is("NAME 0", fine(s, "h1 1;", 0).told(6), 1);
        s.is("NAME 9", fine(s, "h1 512;", 0).told(6), 512);
        s.is("all", fine(s, "h1 1023;", 0).told(6), 1023);
        faulty(s, "h1 1024;", 2, 3);
        faulty(s, "h1 9999;", 2, 3);
    }

    private static void firstOnce(Sentences s) {
        s.of("Terms 1", "first, once)");
        faulty(s, "p0;h1 0;", 1, 0);
        faulty(s, "h1 0;h1 0;", 3, 5);
        faulty(s, "h7 0;p0;h7 0;", 3, 8);
    }

    private static void doors(Sentences s) {
        s.of("Terms 1", "(8 DOORS at most: between unlike ROOMS, no two between the same)");
        s.is("eight", fine(s, EIGHT_DOORS, 0).told(1), 8);
        faulty(s, EIGHT_DOORS + "d1 4;", 3, 45);
        faulty(s, "h7 0;d6 6;", 4, 8);
        faulty(s, "h7 0;d5 6;d5 6;", 4, 13);
        faulty(s, "h7 0;d5 6;d6 5;", 4, 13);
        s.is("between one and two others", fine(s, "h7 0;d5 6;d5 4;", 0).told(1), 2);
    }

    private static void mirrors(Sentences s) {
        s.of("Terms 1", "(7 MIRRORS at most, as they were hung: in ROOM A, of NAME N 0 .. 9)");
        GreetedMirrors x = fine(s, SEVEN_MIRRORS, 7);
        s.is("the last of seven", x.mirror(6, 1), 6);
        faulty(s, SEVEN_MIRRORS + "m0 7;", 3, 40);
        GreetedMirrors y = fine(s, "h7 0;m6 0;m0 9;", 2);
        s.is("in the last ROOM", y.mirror(0, 0), 6);
        s.is("of NAME 0", y.mirror(0, 1), 0);
        s.is("in ROOM 0", y.mirror(1, 0), 0);
        s.is("of NAME 9", y.mirror(1, 1), 9);
        faulty(s, "h7 0;m6 10;", 2, 8);
        faulty(s, "h7 0;m7 9;", 2, 6);
    }

    private static void opposite(Sentences s) {
        s.of("Terms 1", "(MIRRORS X, Y, unlike, told ahead, in one ROOM, hang opposite; each at most in one such pair)");
        GreetedMirrors x = fine(s, SEVEN_MIRRORS + "o6 0;o1 5;o2 4;", 7);
        s.is("the last of seven and MIRROR 0", x.mirror(6, 2), 0);
        s.is("MIRROR 0 and the last", x.mirror(0, 2), 6);
        s.is("three pairs: the one that is left", x.mirror(3, 2), Due.NONE);
        faulty(s, FOUR_MIRRORS + "o1 1;", 4, 28);
        faulty(s, FOUR_MIRRORS + "o1 4;m0 4;", 2, 28);
        faulty(s, FOUR_MIRRORS + "o1 3;", 4, 28);
        faulty(s, FOUR_MIRRORS + "o0 1;o1 2;", 4, 31);
        faulty(s, FOUR_MIRRORS + "o0 1;o2 0;", 4, 33);
    }

    private static void breath(Sentences s) {
        s.of("Terms 1", "(NAME N takes B BREATH, 1 .. 9; 1 untold; each once)");
        faulty(s, "h1 1;b0 0;", 2, 8);
        s.is("the least told", fine(s, "h1 1;m0 0;b0 1;", 1).round(1, Due.NONE), 1);
        s.is("the most", fine(s, "h1 1;m0 0;b0 9;", 1).round(1, Due.NONE), 9);
        faulty(s, "h1 1;b0 10;", 2, 8);
        s.is("untold", fine(s, "h1 1;m0 0;b1 9;", 1).round(1, Due.NONE), 1);
        s.is("NAME 9", fine(s, "h1 512;m0 9;b9 7;", 1).round(1, Due.NONE), 7);
        faulty(s, "h1 1;b10 1;", 2, 6);
        faulty(s, "h1 1;b0 1;b0 1;", 4, 11);
        fine(s, "h1 1;b0 1;b1 2;b2 3;b3 4;b4 5;b5 6;b6 7;b7 8;b8 9;b9 1;", 0);
    }

    private static void persons(Sentences s) {
        s.of("Terms 1", "(5 PERSONS at most, in ROOM A)");
        GreetedMirrors x = fine(s, FIVE_PERSONS, 0);
        s.is("five", x.told(3), 5);
        s.is("the last of five", x.person(4), 0);
        s.is("in the last ROOM", x.person(3), 1);
        faulty(s, FIVE_PERSONS + "p0;", 3, 20);
        faulty(s, "h2 0;p2;", 2, 6);
    }

    private static void figures(Sentences s) {
        s.of("Terms 1", "NUMBERS have one to four figures;");
        faulty(s, "h;", 1, 1);
        faulty(s, "h7;", 1, 2);
        fine(s, "h7 0;", 0);
        fine(s, "h0007 0000;", 0);
        s.is("four figures", fine(s, "h0007 1023;", 0).told(6), 1023);
        faulty(s, "h00007 0;", 2, 1);
        faulty(s, "h7 00000;", 2, 3);
        fine(s, "h0007 0001;d0006 0000;m0006 0009;m0006 0008;o0001 0000;b0009 0009;p0006;", 2);
    }

    private static void aWordIsOneLetter(Sentences s) {
        s.of("Terms 1", "a word is one letter;");
        faulty(s, "hh7 0;", 1, 1);
        faulty(s, "h7 0;dd0 1;", 1, 6);
        faulty(s, "h7 0;pp0;", 1, 6);
        faulty(s, "h7 0;p p0;", 1, 7);
    }

    private static void blanks(Sentences s) {
        s.of("Terms 1", "blanks (32) may stand anywhere but within NUMBERS;");
        GreetedMirrors x = fine(s, "  h  2   5  ;  d  0   1  ;  m  1   3  ;  m  1   4  ;  o  0   1  ;  b  3   2  ;  p   1  ;  ", 2);
        s.is("ROOMS", x.told(0), 2);
        s.is("NAMES", x.told(6), 5);
        s.is("a DOOR", x.doorOf(0, 1), 1);
        s.is("a MIRROR", x.mirror(0, 1), 3);
        s.is("a pair", x.mirror(0, 2), 1);
        s.is("a PERSON", x.person(0), 1);
        fine(s, "h2 5;d0 1;m1 3;m1 4;o0 1;b3 2;p1;", 2);
        faulty(s, "h1 1 0;", 1, 5);
        faulty(s, "h1 10 23;", 1, 6);
        faulty(s, "h2 0;p0 0;", 1, 8);
        for (int letter = 0; letter < 256; letter++) {
            if (letter != 'h' && letter != ' ') {
                faulty(s, (char) letter + "h1 0;", 1, 0);
            }
        }
        fine(s, " h1 0;", 0);
    }

    private static void twoNumbersSideBySide(Sentences s) {
        s.of("Terms 1", "two NUMBERS side by side need one.");
        faulty(s, "h10;", 2, 1);
        faulty(s, "h2 0;d01;", 1, 8);
        fine(s, "h2 0;d0 1;", 0);
        faulty(s, "h2 0;m01;", 1, 8);
        faulty(s, "h2 0;b11;", 2, 6);
    }

    private static void atTheFirstLetter(Sentences s) {
        s.of("Terms 1", "FAULTS, at the first letter that has one");
        // The first has the greater number, and the lesser one.
        faulty(s, "h1 0;m0 0;m0 0;o0 0;h8 0;p9;x", 4, 18);
        faulty(s, "h1 0;h8 0;p9;x", 3, 5);
        faulty(s, "h1 0;p9;x", 2, 6);
        faulty(s, "h1 0;x;p9;h1 0;", 1, 5);
        faulty(s, "h8 0;h1 0;d0 0;", 2, 1);
        faulty(s, "h8 1024;", 2, 1);
        faulty(s, "h8x", 2, 1);
        faulty(s, "h1x0;", 1, 2);
        faulty(s, "h2 0;d2 2;", 2, 6);
        faulty(s, FOUR_MIRRORS + "o0 1;o0 9;", 4, 31);
        faulty(s, FOUR_MIRRORS + "o9 9;", 2, 26);
        faulty(s, "h1 0;b1 1;b1 0;", 4, 11);
        faulty(s, EIGHT_DOORS + "d9 x", 3, 45);
    }

    private static void theEnd(Sentences s) {
        s.of("Terms 1", "(the end at the text's length)");
        for (int length = 1; length < Due.ROW.length(); length++) {
            String part = Due.ROW.substring(0, length);
            if (!part.endsWith(";")) {
                faulty(s, part, 1, length);
            }
        }
        faulty(s, "h1 0   ", 1, 7);
        faulty(s, "  h", 1, 3);
        faulty(s, "h2 0;d0 1" + " ".repeat(231), 1, 240);
    }

    private static void ofTheseTheLeast(Sentences s) {
        s.of("Terms 1", "of these the least:");
        // 1 and 3: words again, or one too many, where a number or the end of a clause is due.
        faulty(s, "h1 h", 1, 3);
        faulty(s, "h1 0 h", 1, 5);
        faulty(s, EIGHT_DOORS.substring(0, 44) + "d", 1, 44);
        faulty(s, SEVEN_MIRRORS.substring(0, 39) + "m", 1, 39);
        faulty(s, FIVE_PERSONS.substring(0, 19) + "p", 1, 19);
        // 2 and 4: five figures, and it clashes.
        faulty(s, "h7 0;d1 00001;", 2, 8);
        faulty(s, "h7 0;d0 1;d1 00000;", 2, 13);
        faulty(s, FOUR_MIRRORS + "o0 1;o00000 2;", 2, 31);
        faulty(s, FOUR_MIRRORS + "o0 1;o2 00001;", 2, 33);
        faulty(s, FOUR_MIRRORS + "o0 00000;", 2, 28);
        faulty(s, FOUR_MIRRORS + "o0 00003;", 2, 28);
        faulty(s, "h1 0;b4 1;b00004 1;", 2, 11);
    }

    private static void aLetterThatIsNoWord(Sentences s) {
        s.of("Terms 1", "1 it cannot stand there (a letter that is no word,");
        for (int letter = 0; letter < 256; letter++) {
            switch (letter) {
                case ' ' -> fine(s, "h1 0; ", 0);
                case 'h' -> faulty(s, "h1 0;h", 3, 5);
                case 'd', 'm', 'o', 'b', 'p' -> faulty(s, "h1 0;" + (char) letter, 1, 6);
                default -> faulty(s, "h1 0;" + (char) letter + "0;", 1, 5);
            }
        }
    }

    private static void aLetterInThePlaceOfAnother(Sentences s) {
        s.of("Terms 1", "1 it cannot stand there");
        for (int letter = 0; letter < 256; letter++) {
            boolean figure = letter >= '0' && letter <= '9';
            if (!figure && letter != ' ') {
                faulty(s, "h" + (char) letter + "1 0;", 1, 1);
                faulty(s, "h1 " + (char) letter + "0;", 1, 3);
                faulty(s, "h1 0;p" + (char) letter + "0;", 1, 6);
                if (letter != ';') {
                    faulty(s, "h1" + (char) letter + " 0;", 1, 2);
                    faulty(s, "h1 0" + (char) letter, 1, 4);
                    faulty(s, "h1 0 " + (char) letter + ";", 1, 5);
                }
            }
        }
        faulty(s, "h1 0;;", 1, 5);
        faulty(s, "h1 0;p0;0", 1, 8);
        faulty(s, "h;1 0;", 1, 1);
        faulty(s, "h1;0;", 1, 2);
        faulty(s, "h-1 0;", 1, 1);
        faulty(s, "h+1 0;", 1, 1);
        faulty(s, "h1 0;d0,0;", 1, 7);
    }

    private static void anotherWordFirst(Sentences s) {
        s.of("Terms 1", "another word first than 'h')");
        for (char word : "dmobp".toCharArray()) {
            faulty(s, word + "0 1;h2 0;", 1, 0);
            faulty(s, "   " + word, 1, 3);
        }
    }

    private static void outOfItsBounds(Sentences s) {
        s.of("Terms 1", "2 a NUMBER of five figures or more, or out of its bounds;");
        fine(s, "h0001 0;", 0);
        faulty(s, "h00001 0;", 2, 1);
        faulty(s, "h1 10230;", 2, 3);
        faulty(s, "h1 00000000000000000000;", 2, 3);
        // As a number of 32 or 64 bits these would be 1 again.
        faulty(s, "h4294967297 0;", 2, 1);
        faulty(s, "h18446744073709551617 0;", 2, 1);
        faulty(s, "h1 0;p" + "0".repeat(234), 2, 6);
        faulty(s, "h0 0;", 2, 1);
        faulty(s, "h8 0;", 2, 1);
        faulty(s, "h1 1024;", 2, 3);
        faulty(s, "h1 0;m0 10;", 2, 8);
        faulty(s, "h1 0;b10 1;", 2, 6);
        faulty(s, "h1 0;b9 0;", 2, 8);
        faulty(s, "h1 0;b9 10;", 2, 8);
    }

    private static void roomsAndMirrorsThatThereAreNot(Sentences s) {
        s.of("Terms 1", "a ROOM that there is not, a MIRROR that was not told yet");
        faulty(s, "h6 0;d6 0;", 2, 6);
        faulty(s, "h6 0;d0 6;", 2, 8);
        fine(s, "h6 0;d5 0;d1 5;", 0);
        faulty(s, "h6 0;m6 0;", 2, 6);
        fine(s, "h6 0;m5 0;", 1);
        faulty(s, "h6 0;p6;", 2, 6);
        fine(s, "h6 0;p5;", 0);
        faulty(s, "h1 0;o0 1;", 2, 6);
        faulty(s, "h1 0;m0 0;o0 1;m0 1;", 2, 13);
        faulty(s, "h1 0;m0 0;o1 0;m0 1;", 2, 11);
        fine(s, "h1 0;m0 0;m0 1;o1 0;", 2);
        faulty(s, SEVEN_MIRRORS + "o0 7;", 2, 43);
        faulty(s, SEVEN_MIRRORS + "o7 0;", 2, 41);
        fine(s, SEVEN_MIRRORS + "o6 0;", 7);
    }

    private static void atItsFirst(Sentences s) {
        s.of("Terms 1", "(at its first).");
        faulty(s, "h   0008 0;", 2, 4);
        faulty(s, "h1    9999;", 2, 6);
        faulty(s, "h 1 123456789 ;", 2, 4);
        faulty(s, "h2 0;m  0002  0;", 2, 8);
        faulty(s, "h2 0;m 1   0010;", 2, 11);
        faulty(s, "h2 0;m0 0;o  0  0007;", 2, 16);
    }

    private static void oneTooMany(Sentences s) {
        s.of("Terms 1", "3 'h' again, a ninth 'd', an eighth 'm', a sixth 'p' (at it).");
        faulty(s, "h1 0;  h", 3, 7);
        faulty(s, "h1 0;m0 0;b1 1;p0;h9 9999;", 3, 18);
        fine(s, EIGHT_DOORS, 0);
        faulty(s, EIGHT_DOORS + " d", 3, 46);
        fine(s, SEVEN_MIRRORS, 7);
        faulty(s, SEVEN_MIRRORS + " m", 3, 41);
        fine(s, FIVE_PERSONS, 0);
        faulty(s, FIVE_PERSONS + " p", 3, 21);
        // Of the others there is no such bound: three pairs and breath of ten NAMES are bound by 4 alone.
        faulty(s, SEVEN_MIRRORS + "o0 1;o2 3;o4 5;o6 0;", 4, 58);
    }

    private static void clashesOfDoors(Sentences s) {
        s.of("Terms 1", "4 B like A, both have a DOOR (at the B);");
        faulty(s, "h1 0;d0 0;", 4, 8);
        faulty(s, "h7 0;d 6  0006;", 4, 10);
        faulty(s, "h7 0;d0 6;d0 6;", 4, 13);
        faulty(s, "h7 0;d0 6;d6  0;", 4, 14);
        faulty(s, EIGHT_DOORS.substring(0, 40) + "d2 1;", 4, 43);
    }

    private static void clashesOfPairs(Sentences s) {
        s.of("Terms 1", "X, Y in a pair already, Y like X, in another ROOM than X (at it);");
        faulty(s, FOUR_MIRRORS + "o0 1;o0 2;", 4, 31);
        faulty(s, FOUR_MIRRORS + "o0 1;o1 2;", 4, 31);
        faulty(s, FOUR_MIRRORS + "o0 1;o2 0;", 4, 33);
        faulty(s, FOUR_MIRRORS + "o0 1;o2  01;", 4, 34);
        faulty(s, FOUR_MIRRORS + "o0 1;o0 1;", 4, 31);
        faulty(s, FOUR_MIRRORS + "o0 1;o1 0;", 4, 31);
        faulty(s, FOUR_MIRRORS + "o2 2;", 4, 28);
        faulty(s, FOUR_MIRRORS + "o2 3;", 4, 28);
        faulty(s, FOUR_MIRRORS + "o3 2;", 4, 28);
        faulty(s, FOUR_MIRRORS + "o3   000;", 4, 30);
    }

    private static void clashesOfBreath(Sentences s) {
        s.of("Terms 1", "N's BREATH again (at it).");
        faulty(s, "h1 0;b0 1;b0 1;", 4, 11);
        faulty(s, "h1 0;b9 9;b1 1;b  0009 9;", 4, 18);
        faulty(s, "h1 0;b9 1;b9 9;", 4, 11);
    }

    private static void anEmptyText(Sentences s) {
        s.of("Terms 1", "An empty text (or one of blanks alone) has no FAULT: no ROOMS.");
        for (int blanks : new int[] {0, 1, 2, 239, 240}) {
            GreetedMirrors x = Due.houseOf(Due.ROW);
            Due.tell(x, " ".repeat(blanks));
            s.is("house() of " + blanks + " blanks", x.house(), 0);
            s.is("no FAULT", x.fault(), Due.NONE);
            for (int what = 0; what <= 3; what++) {
                s.is("told(" + what + ")", x.told(what), 0);
            }
            s.is("no ROOM 0", x.steps(0), Due.UNKNOWN);
            s.is("no NAMES are KNOWN", x.told(6), 0);
        }
    }
}
