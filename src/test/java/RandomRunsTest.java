import java.util.Random;

/** All promises: runs of calls by fixed seeds, each answer compared with PlainMirrors. */
public final class RandomRunsTest {
    private static final String[] CALLS = {"feed", "house", "fault", "told", "mirror", "doorOf", "person", "sees", "step", "greet",
        "steam", "door", "night", "envelope", "walk", "drift", "undo", "round", "cannot", "steps", "mostSeen", "learn", "steamed",
        "ask", "changed", "askNext", "called", "write", "tear", "judge", "seed", "keep", "goBack"};
    /** Calls that come oftener than the others. */
    private static final String[] OFTEN = {"step", "step", "step", "greet", "greet", "greet", "greet", "round", "round", "ask", "changed",
        "askNext", "door", "told", "mirror", "sees", "undo", "write", "judge", "envelope"};

    private final Random chance;
    private GreetedMirrors real;
    private PlainMirrors plain;
    private final StringBuilder story = new StringBuilder();
    private int calls;
    private int wrong;

    private RandomRunsTest(long seed) {
        chance = new Random(seed);
    }

    public static void main(String[] args) {
        int runs = args.length > 0 ? Integer.parseInt(args[0]) : 6000;
        long first = args.length > 1 ? Long.parseLong(args[1]) : 0;
        long calls = 0;
        for (int run = 0; run < runs; run++) {
            RandomRunsTest test = new RandomRunsTest(first + run);
            test.run();
            calls += test.calls;
            if (test.wrong > 0) {
                System.out.println("RandomRunsTest: run " + (first + run) + ":\n" + test.story);
                System.exit(1);
            }
        }
        System.out.println("RandomRunsTest: " + runs + " runs of " + calls + " calls as due, 0 not");
    }

    private void run() {
        real = new GreetedMirrors();
        plain = new PlainMirrors();
        boolean reading = chance.nextInt(4) == 0;
        while (calls < 512 && wrong == 0) {
            if (reading || calls == 0 || chance.nextInt(200) == 0) {
                tell(reading || chance.nextInt(10) == 0 ? broken(text()) : text());
            }
            compare(chance.nextInt(5) < 3 ? OFTEN[chance.nextInt(OFTEN.length)] : CALLS[2 + chance.nextInt(CALLS.length - 2)]);
        }
    }

    // ---- texts

    private String text() {
        if (chance.nextInt(30) == 0) {
            return " ".repeat(chance.nextInt(3));
        }
        StringBuilder text = new StringBuilder();
        int rooms = chance.nextInt(4) == 0 ? 1 + chance.nextInt(7) : 2 + chance.nextInt(4);
        int known = chance.nextInt(3) == 0 ? chance.nextInt(1024) : 1023 & ~(1 << chance.nextInt(10));
        text.append('h').append(rooms).append(' ').append(known).append(';');
        addDoors(text, rooms);
        int mirrors = chance.nextInt(8);
        int[] in = new int[mirrors];
        int names = 2 + chance.nextInt(9);
        for (int m = 0; m < mirrors; m++) {
            in[m] = chance.nextInt(rooms);
            text.append('m').append(in[m]).append(' ').append(chance.nextInt(names)).append(';');
        }
        addOpposite(text, in);
        for (int name = chance.nextInt(5); name < 10; name += 1 + chance.nextInt(6)) {
            text.append('b').append(name).append(' ').append(1 + chance.nextInt(9)).append(';');
        }
        for (int p = chance.nextInt(6); p > 0; p--) {
            text.append('p').append(chance.nextInt(rooms)).append(';');
        }
        return text.toString();
    }

    private void addDoors(StringBuilder text, int rooms) {
        boolean[][] joined = new boolean[rooms][rooms];
        int doors = 0;
        for (int tries = 0; tries < 14 && doors < 8; tries++) {
            int a = tries < rooms ? tries : chance.nextInt(rooms);
            int b = chance.nextInt(rooms);
            if (a != b && !joined[a][b]) {
                joined[a][b] = true;
                joined[b][a] = true;
                doors++;
                text.append('d').append(a).append(' ').append(b).append(';');
            }
        }
    }

    private void addOpposite(StringBuilder text, int[] in) {
        boolean[] paired = new boolean[in.length];
        for (int tries = 0; tries < 12 && in.length > 0; tries++) {
            int x = chance.nextInt(in.length);
            int y = chance.nextInt(in.length);
            if (x != y && in[x] == in[y] && !paired[x] && !paired[y]) {
                paired[x] = true;
                paired[y] = true;
                text.append('o').append(x).append(' ').append(y).append(';');
            }
        }
    }

    /** A few letters otherwise; now and then some clauses twice. */
    private String broken(String whole) {
        StringBuilder text = new StringBuilder(whole);
        String letters = "hdmobp;; 00123456789x\t" + (char) 0 + (char) 255;
        for (int k = chance.nextInt(3); k >= 0 && text.length() > 0; k--) {
            int place = chance.nextInt(text.length());
            char letter = letters.charAt(chance.nextInt(letters.length()));
            switch (chance.nextInt(6)) {
                case 0 -> text.deleteCharAt(place);
                case 1 -> text.insert(place, letter);
                case 2 -> text.insert(place, " ".repeat(1 + chance.nextInt(2)));
                case 3 -> text.append(text.substring(Math.max(0, text.indexOf(";") + 1)));
                case 4 -> text.setLength(place);
                default -> text.setCharAt(place, letter);
            }
        }
        return text.length() > 244 ? text.substring(0, 244) : text.toString();
    }

    private void tell(String text) {
        for (int i = 0; i < text.length() && calls < 500; i++) {
            compare("feed", text.charAt(i), 0, false);
        }
        compare("house", 0, 0, false);
        compare("fault", 0, 0, false);
    }

    // ---- calls

    private int few(int most) {
        if (chance.nextInt(25) == 0) {
            return Due.ODD[chance.nextInt(Due.ODD.length)];
        }
        return chance.nextInt(most + 1);
    }

    private void compare(String name) {
        int rooms = Math.max(0, real.told(0) - (chance.nextInt(10) == 0 ? 0 : 1));
        int mirrors = Math.max(0, real.told(2) - (chance.nextInt(10) == 0 ? 0 : 1));
        int persons = Math.max(0, real.told(3) - (chance.nextInt(10) == 0 ? 0 : 1));
        boolean is = chance.nextBoolean();
        switch (name) {
            case "told" -> compare(name, few(16), 0, is);
            case "mirror" -> compare(name, few(mirrors), few(5), is);
            case "doorOf" -> compare(name, few(8), few(2), is);
            case "person" -> compare(name, few(persons), 0, is);
            case "sees" -> compare(name, few(persons), few(persons), is);
            case "step", "steps" -> compare(name, few(rooms), 0, is);
            case "steam" -> compare(name, few(rooms), 0, is);
            case "door" -> compare(name, few(8), 0, chance.nextInt(3) == 0);
            case "greet", "write" -> compareNamed(name, mirrors);
            case "ask" -> compareAsked(mirrors);
            case "envelope" -> compare(name, few(10), 0, is);
            case "walk" -> compare(name, few(persons), few(rooms), is);
            case "drift" -> compare(name, chance.nextInt(3) == 0 ? few(41) : few(3), 0, is);
            case "round" -> compare(name, few((1 << mirrors + 1) - 1), few(7) - 1, is);
            case "changed" -> compare(name, chance.nextBoolean() ? few(22) : few(5) - 3, 0, is);
            case "steamed" -> compare(name, few(61), few(101), is);
            case "called" -> compare(name, few(mirrors), 0, is);
            case "seed" -> compare(name, chance.nextInt(), 0, is);
            case "mostSeen", "keep", "goBack" -> compare(name, few(2), 0, is);
            default -> compare(name, 0, 0, is);
        }
    }

    /** Often in the room where one is, by a few names alone, so that three alike come one behind the other. */
    private void compareNamed(String call, int mirrors) {
        int m = few(mirrors);
        for (int tries = 0; tries < 5 && real.mirror(m, 0) != real.told(5); tries++) {
            m = few(mirrors);
        }
        int own = real.mirror(m, 1);
        int last = real.mirror(m, 3);
        int name = chance.nextInt(3) == 0 ? few(10) : last >= 0 && chance.nextBoolean() ? last : own;
        compare(call, m, name, false);
    }

    private void compareAsked(int mirrors) {
        if (chance.nextInt(8) == 0) {
            compare("tear", 0, 0, false);
        }
        int m = few(mirrors);
        boolean own = chance.nextBoolean();
        compare("ask", m, own ? real.mirror(m, 1) : real.mirror(few(mirrors), 1), chance.nextInt(3) == 0);
    }

    private void compare(String name, int a, int b, boolean is) {
        if (calls >= 512 || wrong > 0) {
            return;
        }
        calls++;
        int want = plain.call(name, a, b, is);
        int got = CallOf.answer(real, name, a, b, is);
        story.append(name).append('(').append(a).append(", ").append(b).append(", ").append(is).append(") answered ").append(got);
        story.append(got == want ? "\n" : ", due is " + want + "\n");
        wrong += got == want ? 0 : 1;
    }
}
