import java.util.ArrayDeque;
import java.util.ArrayList;
import java.util.Arrays;
import java.util.Deque;
import java.util.List;
import java.util.Set;
import java.util.TreeSet;

/** The document once more, as plainly as the library allows: what GreetedMirrors is compared with. */
final class PlainMirrors {
    private record Pair(int a, int b) {
        boolean joins(int x, int y) {
            return a == x && b == y || a == y && b == x;
        }
    }

    private record Hung(int room, int name) {
    }

    private record Question(int m, int name, boolean lit) {
    }

    private record Token(char letter, String figures, int place) {
    }

    private static final class Fault extends RuntimeException {
        private static final long serialVersionUID = 1L;

        final int kind;
        final int place;

        Fault(int kind, int place) {
            this.kind = kind;
            this.place = place;
        }
    }

    private static final class Plan {
        int rooms;
        int known;
        final List<Pair> doors = new ArrayList<>();
        final List<Hung> mirrors = new ArrayList<>();
        final List<Pair> opposite = new ArrayList<>();
        final Integer[] breath = new Integer[10];
        final List<Integer> persons = new ArrayList<>();

        int other(int m) {
            for (Pair pair : opposite) {
                if (pair.a == m) {
                    return pair.b;
                }
                if (pair.b == m) {
                    return pair.a;
                }
            }
            return -1;
        }
    }

    private static final class Scene {
        int room;
        int breath;
        int nights;
        Set<Integer> known = new TreeSet<>();
        Set<Integer> lit = new TreeSet<>();
        Set<Integer> spoilt = new TreeSet<>();
        Set<Integer> steam = new TreeSet<>();
        Set<Integer> shut = new TreeSet<>();
        List<Integer> names = new ArrayList<>();
        List<List<Integer>> others = new ArrayList<>();
        List<Integer> persons = new ArrayList<>();

        Scene twin() {
            Scene twin = new Scene();
            twin.room = room;
            twin.breath = breath;
            twin.nights = nights;
            twin.known = new TreeSet<>(known);
            twin.lit = new TreeSet<>(lit);
            twin.spoilt = new TreeSet<>(spoilt);
            twin.steam = new TreeSet<>(steam);
            twin.shut = new TreeSet<>(shut);
            twin.names = new ArrayList<>(names);
            for (List<Integer> row : others) {
                twin.others.add(new ArrayList<>(row));
            }
            twin.persons = new ArrayList<>(persons);
            return twin;
        }
    }

    private String text = "";
    private int faultPlace = -1;
    private Plan plan = new Plan();
    private Scene scene = new Scene();
    private final Deque<Scene> past = new ArrayDeque<>();
    private final Scene[] images = new Scene[2];
    private final long[] imageSeeds = new long[2];
    private final List<Question> asked = new ArrayList<>();
    private final List<Hung> book = new ArrayList<>();
    private long seed;

    // ---- the text

    private static List<Token> tokens(String text) {
        List<Token> tokens = new ArrayList<>();
        int i = 0;
        while (i < text.length()) {
            int from = i;
            while (i < text.length() && text.charAt(i) >= '0' && text.charAt(i) <= '9') {
                i++;
            }
            if (i > from) {
                tokens.add(new Token('0', text.substring(from, i), from));
            } else {
                if (text.charAt(i) != ' ') {
                    tokens.add(new Token(text.charAt(i), null, i));
                }
                i++;
            }
        }
        tokens.add(new Token('$', "end", text.length()));
        return tokens;
    }

    private static int number(Token token, int least, int most) {
        if (token.figures == null || token.figures.equals("end")) {
            throw new Fault(1, token.place);
        }
        if (token.figures.length() > 4 || Integer.parseInt(token.figures) < least || Integer.parseInt(token.figures) > most) {
            throw new Fault(2, token.place);
        }
        return Integer.parseInt(token.figures);
    }

    private static void refuse(boolean when, int kind, Token at) {
        if (when) {
            throw new Fault(kind, at.place);
        }
    }

    private static Plan planOf(String text) {
        List<Token> tokens = tokens(text);
        Plan plan = new Plan();
        int i = 0;
        while (i < tokens.size() - 1) {
            Token word = tokens.get(i++);
            boolean isWord = word.figures == null && "hdmobp".indexOf(word.letter) >= 0;
            refuse(!isWord || plan.rooms == 0 && word.letter != 'h', 1, word);
            Token one = tokens.get(i++);
            switch (word.letter) {
                case 'h' -> {
                    refuse(plan.rooms != 0, 3, word);
                    plan.rooms = number(one, 1, 7);
                    plan.known = number(tokens.get(i++), 0, 1023);
                }
                case 'd' -> {
                    refuse(plan.doors.size() == 8, 3, word);
                    int a = number(one, 0, plan.rooms - 1);
                    Token two = tokens.get(i++);
                    int b = number(two, 0, plan.rooms - 1);
                    refuse(a == b || plan.doors.stream().anyMatch(d -> d.joins(a, b)), 4, two);
                    plan.doors.add(new Pair(a, b));
                }
                case 'm' -> {
                    refuse(plan.mirrors.size() == 7, 3, word);
                    int room = number(one, 0, plan.rooms - 1);
                    plan.mirrors.add(new Hung(room, number(tokens.get(i++), 0, 9)));
                }
                case 'o' -> {
                    int x = number(one, 0, plan.mirrors.size() - 1);
                    refuse(plan.other(x) >= 0, 4, one);
                    Token two = tokens.get(i++);
                    int y = number(two, 0, plan.mirrors.size() - 1);
                    refuse(plan.other(y) >= 0 || x == y, 4, two);
                    refuse(plan.mirrors.get(x).room != plan.mirrors.get(y).room, 4, two);
                    plan.opposite.add(new Pair(x, y));
                }
                case 'b' -> {
                    int name = number(one, 0, 9);
                    refuse(plan.breath[name] != null, 4, one);
                    plan.breath[name] = number(tokens.get(i++), 1, 9);
                }
                default -> {
                    refuse(plan.persons.size() == 5, 3, word);
                    plan.persons.add(number(one, 0, plan.rooms - 1));
                }
            }
            Token end = tokens.get(i++);
            refuse(end.letter != ';' || end.figures != null, 1, end);
        }
        return plan;
    }

    // ---- small things

    private static int setOf(Iterable<Integer> numbers) {
        int set = 0;
        for (int k : numbers) {
            set |= 1 << k;
        }
        return set;
    }

    private boolean noRoom(int room) {
        return room < 0 || room >= plan.rooms;
    }

    private boolean noMirror(int m) {
        return m < 0 || m >= plan.mirrors.size();
    }

    private boolean noPerson(int p) {
        return p < 0 || p >= plan.persons.size();
    }

    private boolean noDoor(int d) {
        return d < 0 || d >= plan.doors.size();
    }

    private static boolean noName(int name) {
        return name < 0 || name > 9;
    }

    private boolean open(int a, int b) {
        for (int d = 0; d < plan.doors.size(); d++) {
            if (plan.doors.get(d).joins(a, b) && !scene.shut.contains(d)) {
                return true;
            }
        }
        return false;
    }

    private boolean inView(int from, int room) {
        return from == room || open(from, room);
    }

    private int breathOf(int name) {
        return plan.breath[name] == null ? 1 : plan.breath[name];
    }

    /** Steps between all rooms, after Floyd and Warshall; 999 where there is no way. */
    private int[][] ways() {
        int[][] ways = new int[plan.rooms][plan.rooms];
        for (int a = 0; a < plan.rooms; a++) {
            for (int b = 0; b < plan.rooms; b++) {
                ways[a][b] = a == b ? 0 : open(a, b) ? 1 : 999;
            }
        }
        for (int by = 0; by < plan.rooms; by++) {
            for (int a = 0; a < plan.rooms; a++) {
                for (int b = 0; b < plan.rooms; b++) {
                    ways[a][b] = Math.min(ways[a][b], ways[a][by] + ways[by][b]);
                }
            }
        }
        return ways;
    }

    private void aheadOf() {
        past.addLast(scene.twin());
        if (past.size() > 20) {
            past.removeFirst();
        }
    }

    private static boolean toggle(Set<Integer> set, int k, boolean is) {
        return is ? !set.add(k) : set.remove(k);
    }

    private boolean greeted(int m, int name) {
        List<Integer> others = scene.others.get(m);
        if (scene.names.get(m) != name) {
            if (!others.isEmpty() && others.get(0) != name) {
                others.clear();
            }
            others.add(name);
            if (others.size() == 3) {
                scene.names.set(m, name);
                others.clear();
            }
            return false;
        }
        others.clear();
        if (scene.lit.contains(m) || scene.spoilt.contains(m)) {
            return false;
        }
        int other = plan.other(m);
        if (other >= 0 && other < m && !scene.lit.contains(other) && !scene.spoilt.contains(other)) {
            scene.spoilt.addAll(List.of(m, other));
            return false;
        }
        return scene.lit.add(m);
    }

    private int draw(int n) {
        seed = Math.floorMod(seed * 1103515245L + 12345L, 2147483648L);
        return (int) (seed / 65536 % n);
    }

    // ---- the calls

    int call(String name, int a, int b, boolean is) {
        return switch (name) {
            case "feed" -> feed(a);
            case "house" -> house();
            case "fault" -> faultPlace;
            case "told" -> told(a);
            case "mirror" -> mirror(a, b);
            case "doorOf" -> noDoor(a) ? Due.UNKNOWN : b == 0 ? plan.doors.get(a).a : b == 1 ? plan.doors.get(a).b : Due.OUTSIDE;
            case "person" -> noPerson(a) ? Due.UNKNOWN : scene.persons.get(a);
            case "sees" -> sees(a, b);
            case "step" -> step(a);
            case "greet" -> greet(a, b);
            case "steam" -> steam(a, is);
            case "door" -> door(a, is);
            case "night" -> night();
            case "envelope" -> envelope(a);
            case "walk" -> walk(a, b);
            case "drift" -> drift(a);
            case "undo" -> undo();
            default -> tried(name, a, b, is);
        };
    }

    private int tried(String name, int a, int b, boolean is) {
        return switch (name) {
            case "round" -> round(a, b);
            case "cannot" -> cannot();
            case "steps" -> noRoom(a) ? Due.UNKNOWN : ways()[scene.room][a] >= 999 ? -1 : ways()[scene.room][a];
            case "mostSeen" -> mostSeen(a);
            case "learn" -> learn();
            case "steamed" -> steamed(a, b);
            case "ask" -> ask(a, b, is);
            case "changed" -> changed(a);
            case "askNext" -> askNext();
            case "called" -> called(a);
            case "write" -> write(a, b);
            case "tear" -> tear();
            case "judge" -> judge();
            case "seed" -> newSeed(a);
            case "keep" -> keep(a);
            case "goBack" -> goBack(a);
            default -> throw new IllegalArgumentException(name);
        };
    }

    private int feed(int letter) {
        if (letter < 0 || letter > 255) {
            return Due.OUTSIDE;
        }
        if (text.length() == 240) {
            return Due.FULL;
        }
        text += (char) letter;
        return text.length();
    }

    private int house() {
        String read = text;
        text = "";
        try {
            plan = planOf(read);
        } catch (Fault fault) {
            faultPlace = fault.place;
            return -10 - fault.kind;
        }
        faultPlace = -1;
        scene = new Scene();
        for (int name = 0; name < 10; name++) {
            if ((plan.known >> name) % 2 == 1) {
                scene.known.add(name);
            }
        }
        for (Hung hung : plan.mirrors) {
            scene.names.add(hung.name);
            scene.others.add(new ArrayList<>());
        }
        scene.persons.addAll(plan.persons);
        past.clear();
        Arrays.fill(images, null);
        asked.clear();
        book.clear();
        return plan.mirrors.size();
    }

    private int told(int what) {
        int[] all = {plan.rooms, plan.doors.size(), plan.mirrors.size(), plan.persons.size(), text.length(), scene.room,
            setOf(scene.known), setOf(scene.lit), setOf(scene.spoilt), setOf(scene.steam), setOf(scene.shut),
            scene.breath, scene.nights, asked.size(), book.size(), past.size()};
        return what < 0 || what >= all.length ? Due.OUTSIDE : all[what];
    }

    private int mirror(int m, int what) {
        if (noMirror(m)) {
            return Due.UNKNOWN;
        }
        List<Integer> others = scene.others.get(m);
        int[] all = {plan.mirrors.get(m).room, scene.names.get(m), plan.other(m), others.isEmpty() ? -1 : others.get(0), others.size()};
        return what < 0 || what >= all.length ? Due.OUTSIDE : all[what];
    }

    private int sees(int p, int q) {
        if (noPerson(p) || noPerson(q) || p == q) {
            return Due.UNKNOWN;
        }
        int room = scene.persons.get(p);
        boolean light = scene.lit.stream().anyMatch(m -> plan.mirrors.get(m).room == room);
        return light && !scene.steam.contains(room) && inView(room, scene.persons.get(q)) ? 1 : 0;
    }

    private int step(int room) {
        if (noRoom(room)) {
            return Due.UNKNOWN;
        }
        if (!open(scene.room, room)) {
            return Due.NOT;
        }
        aheadOf();
        scene.room = room;
        return ++scene.breath;
    }

    private int greet(int m, int name) {
        if (noMirror(m) || noName(name)) {
            return Due.UNKNOWN;
        }
        if (plan.mirrors.get(m).room != scene.room || !scene.known.contains(name)) {
            return Due.NOT;
        }
        aheadOf();
        scene.breath += breathOf(name);
        return greeted(m, name) ? 1 : 0;
    }

    private int steam(int room, boolean is) {
        if (noRoom(room)) {
            return Due.UNKNOWN;
        }
        aheadOf();
        return toggle(scene.steam, room, is) ? 1 : 0;
    }

    private int door(int d, boolean is) {
        if (noDoor(d)) {
            return Due.UNKNOWN;
        }
        aheadOf();
        return toggle(scene.shut, d, is) ? 1 : 0;
    }

    private int night() {
        if (plan.rooms == 0) {
            return Due.NOT;
        }
        aheadOf();
        scene.lit.clear();
        scene.spoilt.clear();
        scene.steam.clear();
        return ++scene.nights;
    }

    private int envelope(int name) {
        if (noName(name)) {
            return Due.UNKNOWN;
        }
        aheadOf();
        scene.known.add(name);
        return setOf(scene.known);
    }

    private int walk(int p, int room) {
        if (noPerson(p) || noRoom(room)) {
            return Due.UNKNOWN;
        }
        aheadOf();
        return scene.persons.set(p, room);
    }

    private int drift(int n) {
        if (n < 1 || n > 40) {
            return Due.OUTSIDE;
        }
        if (plan.rooms == 0) {
            return Due.NOT;
        }
        aheadOf();
        for (int evening = 0; evening < n; evening++) {
            int kind = draw(3);
            if (kind == 0) {
                scene.steam.add(draw(plan.rooms));
            } else if (kind == 1 && !plan.persons.isEmpty()) {
                int p = draw(plan.persons.size());
                scene.persons.set(p, draw(plan.rooms));
            } else if (kind == 2 && !plan.mirrors.isEmpty()) {
                int m = draw(plan.mirrors.size());
                greeted(m, scene.names.get(m));
            }
        }
        return setOf(scene.lit);
    }

    private int undo() {
        if (past.isEmpty()) {
            return Due.NOT;
        }
        scene = past.removeLast();
        return past.size();
    }

    // ---- tried

    /** All orders, the lesser first, one by one. */
    private int bestRound(List<Integer> left, List<Integer> order, int breath, int least, List<Integer> best) {
        if (left.isEmpty()) {
            if (breath < least) {
                best.clear();
                best.addAll(order);
                return breath;
            }
            return least;
        }
        int room = order.isEmpty() ? scene.room : plan.mirrors.get(order.get(order.size() - 1)).room;
        int[][] ways = ways();
        for (int m : List.copyOf(left)) {
            int way = ways[room][plan.mirrors.get(m).room];
            int other = plan.other(m);
            boolean spoils = other >= 0 && other < m && !scene.lit.contains(other) && !order.contains(other);
            if (way < 999 && scene.known.contains(scene.names.get(m)) && !scene.spoilt.contains(m) && !spoils) {
                List<Integer> rest = new ArrayList<>(left);
                rest.remove((Integer) m);
                order.add(m);
                least = bestRound(rest, order, breath + way + breathOf(scene.names.get(m)), least, best);
                order.remove(order.size() - 1);
            }
        }
        return least;
    }

    private int round(int set, int i) {
        if (set < 0 || set >= 1 << plan.mirrors.size()) {
            return Due.UNKNOWN;
        }
        List<Integer> left = new ArrayList<>();
        for (int m = 0; m < plan.mirrors.size(); m++) {
            if ((set >> m) % 2 == 1 && !scene.lit.contains(m)) {
                left.add(m);
            }
        }
        List<Integer> best = new ArrayList<>();
        int breath = bestRound(left, new ArrayList<>(), 0, 9999, best);
        if (breath == 9999) {
            return -1;
        }
        return i == -1 ? breath : i >= 0 && i < best.size() ? best.get(i) : -1;
    }

    /** By greeting each alone on a copy, wherever it hangs. */
    private int cannot() {
        Set<Integer> set = new TreeSet<>();
        for (int m = 0; m < plan.mirrors.size(); m++) {
            Scene kept = scene;
            boolean comes = ways()[scene.room][plan.mirrors.get(m).room] < 999;
            boolean knows = scene.known.contains(scene.names.get(m));
            scene = kept.twin();
            boolean lights = greeted(m, scene.names.get(m));
            scene = kept;
            if (!scene.lit.contains(m) && !(comes && knows && lights)) {
                set.add(m);
            }
        }
        return setOf(set);
    }

    private int mostSeen(int what) {
        if (what != 0 && what != 1) {
            return Due.OUTSIDE;
        }
        int[] best = {-1, -1};
        for (int r = plan.rooms - 1; r >= 0; r--) {
            int room = r;
            boolean hangs = plan.mirrors.stream().anyMatch(hung -> hung.room == room);
            int seen = (int) scene.persons.stream().filter(there -> inView(room, there)).count();
            if (hangs && !scene.steam.contains(room) && seen >= best[1]) {
                best = new int[] {room, seen};
            }
        }
        return best[what];
    }

    private int learn() {
        Set<Integer> names = new TreeSet<>();
        for (int m = 0; m < plan.mirrors.size(); m++) {
            if (!scene.lit.contains(m)) {
                names.add(scene.names.get(m));
            }
        }
        names.removeAll(scene.known);
        return setOf(names);
    }

    private int steamed(int n, int q) {
        if (n < 0 || n > 60 || q < 0 || q > 100) {
            return Due.OUTSIDE;
        }
        return n == 0 ? 1000000000 : (int) ((long) steamed(n - 1, q) * (100 - q) / 100);
    }

    // ---- asked

    private int ask(int m, int name, boolean lit) {
        if (noMirror(m) || noName(name)) {
            return Due.UNKNOWN;
        }
        if (asked.size() == 8) {
            return Due.FULL;
        }
        asked.add(new Question(m, name, lit));
        return asked.size();
    }

    private List<Integer> toldNames() {
        List<Integer> names = new ArrayList<>();
        plan.mirrors.forEach(hung -> names.add(hung.name));
        return names;
    }

    private List<Integer> swapped(Pair pair) {
        List<Integer> names = toldNames();
        names.set(pair.a, plan.mirrors.get(pair.b).name);
        names.set(pair.b, plan.mirrors.get(pair.a).name);
        return names;
    }

    private boolean fits(List<Integer> names) {
        return asked.stream().allMatch(q -> names.get(q.m).equals(q.name) == q.lit);
    }

    private List<Pair> pairs() {
        List<Pair> pairs = new ArrayList<>();
        for (int a = 0; a < plan.mirrors.size(); a++) {
            for (int b = a + 1; b < plan.mirrors.size(); b++) {
                Pair pair = new Pair(a, b);
                if (plan.mirrors.get(a).name != plan.mirrors.get(b).name && fits(swapped(pair))) {
                    pairs.add(pair);
                }
            }
        }
        return pairs;
    }

    private int changed(int i) {
        if (i == -2) {
            return fits(toldNames()) ? 1 : 0;
        }
        List<Pair> pairs = pairs();
        if (i == -1) {
            return pairs.size();
        }
        return i < 0 || i >= pairs.size() ? -1 : 10 * pairs.get(i).a + pairs.get(i).b;
    }

    private int askNext() {
        List<List<Integer>> guesses = new ArrayList<>();
        pairs().forEach(pair -> guesses.add(swapped(pair)));
        if (fits(toldNames())) {
            guesses.add(toldNames());
        }
        int best = -1;
        int least = Integer.MAX_VALUE;
        for (int code = 0; code < 10 * plan.mirrors.size(); code++) {
            int m = code / 10;
            int name = code % 10;
            int yes = (int) guesses.stream().filter(names -> names.get(m) == name).count();
            int no = guesses.size() - yes;
            if (yes > 0 && no > 0 && Math.max(yes, no) < least) {
                least = Math.max(yes, no);
                best = code;
            }
        }
        return best;
    }

    private int called(int m) {
        if (noMirror(m)) {
            return Due.UNKNOWN;
        }
        int set = 0;
        for (int n = 0; n < 10; n++) {
            int name = n;
            if (asked.stream().filter(q -> q.m == m).allMatch(q -> (q.name == name) == q.lit)) {
                set |= 1 << name;
            }
        }
        return set;
    }

    private int write(int m, int name) {
        if (noMirror(m) || noName(name)) {
            return Due.UNKNOWN;
        }
        if (book.size() == 15) {
            return Due.FULL;
        }
        book.add(new Hung(m, name));
        return book.size();
    }

    private int tear() {
        int had = asked.size() + book.size();
        asked.clear();
        book.clear();
        return had;
    }

    private int judge() {
        for (int i = 0; i < book.size(); i++) {
            if (scene.names.get(book.get(i).room) != book.get(i).name) {
                return i;
            }
        }
        return -1;
    }

    // ---- draws, images

    private int newSeed(int v) {
        if (v < 0) {
            return Due.OUTSIDE;
        }
        int was = (int) seed;
        seed = v;
        return was;
    }

    private int keep(int i) {
        if (i != 0 && i != 1) {
            return Due.UNKNOWN;
        }
        images[i] = scene.twin();
        imageSeeds[i] = seed;
        past.clear();
        return 1;
    }

    private int goBack(int i) {
        if (i != 0 && i != 1) {
            return Due.UNKNOWN;
        }
        if (images[i] == null) {
            return Due.NOT;
        }
        scene = images[i].twin();
        seed = imageSeeds[i];
        past.clear();
        return 1;
    }
}
