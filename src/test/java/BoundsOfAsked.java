/** Promises 25 to 31: what was asked. */
final class BoundsOfAsked {
    private BoundsOfAsked() {
    }

    static void all(Sentences s) {
        ask(s);
        askRefused(s);
        changedHowMany(s);
        changedThe(s);
        changedNone(s);
        askNext(s);
        called(s);
        calledUnknown(s);
        write(s);
        writeRefused(s);
        tear(s);
        judge(s);
    }

    private static void ask(Sentences s) {
        s.of("Promise 25", "ASKED: how much.");
        GreetedMirrors x = Due.houseOf("h1 0;m0 0;");
        s.is("the first", x.ask(0, 0, true), 1);
        s.is("one that is like it", x.ask(0, 0, true), 2);
        s.is("one against it", x.ask(0, 0, false), 3);
        s.is("told", x.told(13), 3);
        x.tear();
        s.is("the first behind tear()", x.ask(0, 9, false), 1);
    }

    private static void askRefused(Sentences s) {
        s.of("Promise 25", "UNKNOWN, FULL (8).");
        GreetedMirrors x = Due.houseOf("h1 0;m0 0;m0 0;");
        s.is("no MIRROR, below", x.ask(-1, 0, true), Due.UNKNOWN);
        s.is("no MIRROR, above", x.ask(2, 0, true), Due.UNKNOWN);
        s.is("no NAME, below", x.ask(0, -1, true), Due.UNKNOWN);
        s.is("no NAME, above", x.ask(0, 10, true), Due.UNKNOWN);
        s.is("nothing ASKED by that", x.told(13), 0);
        for (int k = 1; k <= 8; k++) {
            s.is("time " + k, x.ask(1, 9, false), k);
        }
        s.is("a ninth", x.ask(1, 9, false), Due.FULL);
        s.is("no MIRROR, full", x.ask(2, 9, false), Due.UNKNOWN);
        s.is("no NAME, full", x.ask(1, 10, false), Due.UNKNOWN);
        s.is("eight", x.told(13), 8);
    }

    private static void changedHowMany(Sentences s) {
        s.of("Promise 26", "CHANGED: i = NONE how many pairs, -2 1 none changed fits, 0 not,");
        GreetedMirrors none = Due.houseOf("h1 0;");
        s.is("no MIRRORS: how many", none.changed(-1), 0);
        s.is("no MIRRORS: none changed", none.changed(-2), 1);
        GreetedMirrors x = Due.houseOf("h1 0;m0 0;m0 9;");
        s.is("one pair", x.changed(-1), 1);
        s.is("none changed", x.changed(-2), 1);
        x.ask(1, 0, true);
        s.is("the pair fits", x.changed(-1), 1);
        s.is("none changed does not", x.changed(-2), 0);
        x.ask(1, 9, true);
        s.is("the pair does not, either", x.changed(-1), 0);
        s.is("none changed does not, either", x.changed(-2), 0);
    }

    private static void changedThe(Sentences s) {
        s.of("Promise 26", "else the i-th;");
        GreetedMirrors x = Due.houseOf("h1 0;m0 0;m0 1;m0 2;m0 3;m0 4;m0 5;m0 6;");
        s.is("the first", x.changed(0), 1);
        s.is("the last of 21", x.changed(20), 56);
        x.ask(0, 0, true);
        s.is("the first of those that fit", x.changed(0), 12);
        s.is("the last of 15", x.changed(14), 56);
        s.is("behind it", x.changed(15), Due.NONE);
    }

    private static void changedNone(Sentences s) {
        s.of("Promise 26", "NONE (i below these, too).");
        GreetedMirrors x = Due.houseOf("h1 0;m0 0;m0 1;m0 2;m0 3;m0 4;m0 5;m0 6;");
        s.is("changed(-3)", x.changed(-3), Due.NONE);
        for (int i : Sentences.beyond(21)) {
            if (i != -1 && i != -2) {
                s.is("changed(" + i + ")", x.changed(i), Due.NONE);
            }
        }
        s.is("no pair", Due.houseOf("h1 0;m0 0;m0 0;").changed(0), Due.NONE);
    }

    private static void askNext(Sentences s) {
        s.of("Promise 27", "ASK NEXT; NONE.");
        s.is("without ROOMS", new GreetedMirrors().askNext(), Due.NONE);
        s.is("one MIRROR", Due.houseOf("h1 0;m0 0;").askNext(), Due.NONE);
        s.is("MIRROR 0 and NAME 0", Due.houseOf("h1 0;m0 0;m0 9;").askNext(), 0);
        s.is("NAME 9", Due.houseOf("h1 0;m0 9;m0 9;m0 9;m0 9;m0 9;m0 9;m0 8;").askNext(), 8);
        GreetedMirrors x = Due.houseOf("h1 0;m0 1;m0 1;m0 1;m0 1;m0 1;m0 9;m0 8;");
        for (int m = 0; m < 5; m++) {
            x.ask(m, 1, true);
        }
        // Of the five none is changed: none, or the last two, of which the first is MIRROR 5.
        s.is("a MIRROR far behind", x.askNext(), 58);
        x.ask(5, 9, true);
        s.is("none changed alone", x.askNext(), Due.NONE);
    }

    private static void called(Sentences s) {
        s.of("Promise 28", "CALLED.");
        GreetedMirrors x = Due.houseOf("h1 0;m0 0;");
        s.is("nothing ASKED", x.called(0), 1023);
        x.ask(0, 0, false);
        x.ask(0, 9, false);
        s.is("but for two", x.called(0), 1022 - 512);
        x.ask(0, 5, true);
        s.is("one", x.called(0), 32);
        x.ask(0, 6, true);
        s.is("none", x.called(0), 0);
    }

    private static void calledUnknown(Sentences s) {
        s.of("Promise 28", "UNKNOWN.");
        GreetedMirrors x = Due.houseOf("h1 0;m0 0;m0 0;");
        s.is("below", x.called(-1), Due.UNKNOWN);
        s.is("the last", x.called(1), 1023);
        s.is("above", x.called(2), Due.UNKNOWN);
        s.is("without ROOMS", new GreetedMirrors().called(0), Due.UNKNOWN);
    }

    private static void write(Sentences s) {
        s.of("Promise 29", "An entry behind THE BOOK: how many.");
        GreetedMirrors x = Due.houseOf("h1 0;m0 0;");
        s.is("the first", x.write(0, 0), 1);
        s.is("one that is like it", x.write(0, 0), 2);
        s.is("behind them", x.write(0, 9), 3);
        s.is("that one is the third", x.judge(), 2);
        s.is("told", x.told(14), 3);
        x.tear();
        s.is("the first behind tear()", x.write(0, 9), 1);
    }

    private static void writeRefused(Sentences s) {
        s.of("Promise 29", "UNKNOWN, FULL (15).");
        GreetedMirrors x = Due.houseOf("h1 0;m0 0;m0 0;");
        s.is("no MIRROR, below", x.write(-1, 0), Due.UNKNOWN);
        s.is("no MIRROR, above", x.write(2, 0), Due.UNKNOWN);
        s.is("no NAME, below", x.write(0, -1), Due.UNKNOWN);
        s.is("no NAME, above", x.write(0, 10), Due.UNKNOWN);
        s.is("no entry by that", x.told(14), 0);
        for (int k = 1; k <= 15; k++) {
            s.is("entry " + k, x.write(1, 0), k);
        }
        s.is("a sixteenth", x.write(1, 9), Due.FULL);
        s.is("no MIRROR, full", x.write(2, 9), Due.UNKNOWN);
        s.is("no NAME, full", x.write(1, 10), Due.UNKNOWN);
        s.is("fifteen", x.told(14), 15);
        s.is("none of them is wrong", x.judge(), Due.NONE);
    }

    private static void tear(Sentences s) {
        s.of("Promise 30", "Nothing ASKED, THE BOOK is empty: how much both had.");
        GreetedMirrors x = Due.houseOf("h1 0;m0 0;m0 1;");
        s.is("nothing", x.tear(), 0);
        for (int k = 0; k < 16; k++) {
            x.ask(0, 9, true);
            x.write(0, 9);
        }
        s.is("8 and 15", x.tear(), 23);
        s.is("ASKED", x.told(13), 0);
        s.is("entries", x.told(14), 0);
        s.is("none changed fits again", x.changed(-2), 1);
        s.is("the pair fits again", x.changed(-1), 1);
        s.is("all NAMES again", x.called(0), 1023);
        s.is("nothing is wrong", x.judge(), Due.NONE);
        s.is("nothing again", x.tear(), 0);
        x.write(0, 0);
        s.is("an entry alone", x.tear(), 1);
        x.ask(0, 0, true);
        s.is("ASKED alone", x.tear(), 1);
        s.is("without ROOMS", new GreetedMirrors().tear(), 0);
    }

    private static void judge(Sentences s) {
        s.of("Promise 31", "WRONG; NONE.");
        s.is("without ROOMS", new GreetedMirrors().judge(), Due.NONE);
        GreetedMirrors x = Due.houseOf("h1 3;m0 0;m0 1;");
        x.write(1, 0);
        s.is("the first entry", x.judge(), 0);
        x.tear();
        for (int k = 0; k < 14; k++) {
            x.write(0, 0);
        }
        s.is("fourteen right ones", x.judge(), Due.NONE);
        x.write(1, 9);
        s.is("the fifteenth is wrong", x.judge(), 14);
        x.greet(0, 1);
        x.greet(0, 1);
        s.is("misnamed twice, not now", x.judge(), 14);
        x.greet(0, 1);
        s.is("all are wrong now: the first", x.judge(), 0);
    }
}
