/** A house of mirrors that light up only for those who greet them by the right name. */
public final class GreetedMirrors {
    public static final int NONE = -1, UNKNOWN = -1000000001, OUTSIDE = -1000000002, NOT = -1000000003, FULL = -1000000004;

    private static final int TEXT_LIMIT = 240;
    private static final int ROOM_LIMIT = 7;
    private static final int DOOR_LIMIT = 8;
    private static final int MIRROR_LIMIT = 7;
    private static final int PERSON_LIMIT = 5;
    private static final int NAME_LIMIT = 10;
    private static final int UNDO_LIMIT = 20;
    private static final int ASK_LIMIT = 8;
    private static final int BOOK_LIMIT = 15;
    private static final int EVENING_LIMIT = 40;
    private static final int BREATH_BOUND = 90000;
    private static final int NIGHT_BOUND = 9000;
    private static final int BILLION = 1000000000;

    private final Reader reader;
    private House built;
    private House spare;
    private final State now;
    private final Past past;
    private final Image firstImage;
    private final Image secondImage;
    private final Rounds rounds;
    private final Inquiry inquiry;
    private final Book book;
    private final Draws draws;

    public GreetedMirrors() {
        reader = new Reader();
        built = new House();
        spare = new House();
        now = new State();
        past = new Past();
        firstImage = new Image();
        secondImage = new Image();
        rounds = new Rounds();
        inquiry = new Inquiry();
        book = new Book();
        draws = new Draws();
    }

    // ---- the house

    public int feed(int letter) {
        if (letter < 0 || letter > 255) {
            return OUTSIDE;
        }
        if (reader.length >= TEXT_LIMIT) {
            return FULL;
        }
        return reader.append(letter);
    }

    public int house() {
        int fault = reader.readInto(spare);
        if (fault != 0) {
            return -10 - fault;
        }
        // The two houses change places, so that no call has to make a new one.
        House former = built;
        built = spare;
        spare = former;
        now.startIn(built);
        past.forget();
        firstImage.kept = false;
        secondImage.kept = false;
        inquiry.forget();
        book.count = 0;
        return built.mirrors;
    }

    public int fault() {
        return reader.faultPlace;
    }

    public int told(int what) {
        switch (what) {
            case 0: return built.rooms;
            case 1: return built.doors;
            case 2: return built.mirrors;
            case 3: return built.persons;
            case 4: return reader.length;
            case 5: return now.room;
            case 6: return now.known;
            case 7: return now.lit;
            case 8: return now.spoilt;
            case 9: return now.steamed;
            case 10: return now.shut;
            case 11: return now.breath;
            case 12: return now.nights;
            case 13: return inquiry.count;
            case 14: return book.count;
            case 15: return past.count;
            default: return OUTSIDE;
        }
    }

    public int mirror(int m, int what) {
        if (!built.hasMirror(m)) {
            return UNKNOWN;
        }
        switch (what) {
            case 0: return at(built.mirrorRoom, m);
            case 1: return at(now.name, m);
            case 2: return at(built.opposite, m);
            case 3: return at(now.otherName, m);
            case 4: return at(now.otherCount, m);
            default: return OUTSIDE;
        }
    }

    public int doorOf(int d, int what) {
        if (!built.hasDoor(d)) {
            return UNKNOWN;
        }
        switch (what) {
            case 0: return at(built.doorFrom, d);
            case 1: return at(built.doorTo, d);
            default: return OUTSIDE;
        }
    }

    public int person(int p) {
        return built.hasPerson(p) ? at(now.personRoom, p) : UNKNOWN;
    }

    public int sees(int p, int q) {
        if (!built.hasPerson(p) || !built.hasPerson(q) || p == q) {
            return UNKNOWN;
        }
        int room = at(now.personRoom, p);
        boolean shows = (now.lit & built.mirrorsIn(room)) != 0 && !has(now.steamed, room);
        return shows && has(now.seenFrom(built, room), at(now.personRoom, q)) ? 1 : 0;
    }

    // ---- what is done

    public int step(int room) {
        if (!built.hasRoom(room)) {
            return UNKNOWN;
        }
        if (!has(now.openBeside(built, now.room), room)) {
            return NOT;
        }
        if (now.breath > BREATH_BOUND) {
            return FULL;
        }
        past.push(now);
        now.room = room;
        now.breath++;
        return now.breath;
    }

    public int greet(int m, int name) {
        if (!built.hasMirror(m) || !isName(name)) {
            return UNKNOWN;
        }
        if (at(built.mirrorRoom, m) != now.room || !has(now.known, name)) {
            return NOT;
        }
        if (now.breath > BREATH_BOUND) {
            return FULL;
        }
        past.push(now);
        now.breath += built.breathOf(name);
        return now.hear(built, m, name) ? 1 : 0;
    }

    public int steam(int room, boolean is) {
        if (!built.hasRoom(room)) {
            return UNKNOWN;
        }
        past.push(now);
        int was = has(now.steamed, room) ? 1 : 0;
        now.steamed = with(now.steamed, room, is);
        return was;
    }

    public int door(int d, boolean is) {
        if (!built.hasDoor(d)) {
            return UNKNOWN;
        }
        past.push(now);
        int was = has(now.shut, d) ? 1 : 0;
        now.shut = with(now.shut, d, is);
        return was;
    }

    public int night() {
        if (built.rooms == 0) {
            return NOT;
        }
        if (now.nights > NIGHT_BOUND) {
            return FULL;
        }
        past.push(now);
        now.lit = 0;
        now.spoilt = 0;
        now.steamed = 0;
        now.nights++;
        return now.nights;
    }

    public int envelope(int name) {
        if (!isName(name)) {
            return UNKNOWN;
        }
        past.push(now);
        now.known = with(now.known, name, true);
        return now.known;
    }

    public int walk(int p, int room) {
        if (!built.hasPerson(p) || !built.hasRoom(room)) {
            return UNKNOWN;
        }
        past.push(now);
        int was = at(now.personRoom, p);
        put(now.personRoom, p, room);
        return was;
    }

    public int drift(int n) {
        if (n < 1 || n > EVENING_LIMIT) {
            return OUTSIDE;
        }
        if (built.rooms == 0) {
            return NOT;
        }
        past.push(now);
        for (int evening = 0; evening < n; evening++) {
            passEvening();
        }
        return now.lit;
    }

    private void passEvening() {
        int kind = draws.next(3);
        if (kind == 0) {
            now.steamed = with(now.steamed, draws.next(built.rooms), true);
        } else if (kind == 1 && built.persons > 0) {
            int p = draws.next(built.persons);
            put(now.personRoom, p, draws.next(built.rooms));
        } else if (kind == 2 && built.mirrors > 0) {
            int m = draws.next(built.mirrors);
            now.hear(built, m, at(now.name, m));
        }
    }

    public int undo() {
        return past.count == 0 ? NOT : past.pop(now);
    }

    // ---- tried

    public int round(int set, int i) {
        if ((set & ~built.allMirrors()) != 0) {
            return UNKNOWN;
        }
        boolean can = rounds.plan(built, now, set & ~now.lit);
        if (!can || i < NONE) {
            return NONE;
        }
        return i == NONE ? rounds.breath(built, now) : rounds.mirrorAt(built, i);
    }

    public int cannot() {
        rounds.measure(built, now);
        int set = 0;
        for (int m = 0; m < built.mirrors; m++) {
            if (!has(now.lit, m) && !canLightAlone(m)) {
                set = with(set, m, true);
            }
        }
        return set;
    }

    private boolean canLightAlone(int m) {
        int ahead = built.hungAhead(m);
        return rounds.canGreet(now, m) && (ahead == NONE || has(now.lit, ahead));
    }

    public int steps(int room) {
        if (!built.hasRoom(room)) {
            return UNKNOWN;
        }
        rounds.measure(built, now);
        return rounds.fromHere(room);
    }

    public int mostSeen(int what) {
        if (what != 0 && what != 1) {
            return OUTSIDE;
        }
        int best = NONE;
        int most = NONE;
        for (int room = 0; room < built.rooms; room++) {
            if (built.mirrorsIn(room) != 0 && !has(now.steamed, room)) {
                int seen = now.personsIn(built, now.seenFrom(built, room));
                if (seen > most) {
                    most = seen;
                    best = room;
                }
            }
        }
        return what == 0 ? best : most;
    }

    public int learn() {
        int names = 0;
        for (int m = 0; m < built.mirrors; m++) {
            if (!has(now.lit, m)) {
                names = with(names, at(now.name, m), true);
            }
        }
        return names & ~now.known;
    }

    public int steamed(int n, int q) {
        if (n < 0 || n > 60 || q < 0 || q > 100) {
            return OUTSIDE;
        }
        long odds = BILLION;
        for (int room = 0; room < n; room++) {
            odds = odds * (100 - q) / 100;
        }
        return (int) odds;
    }

    // ---- what was asked

    public int ask(int m, int name, boolean lit) {
        if (!built.hasMirror(m) || !isName(name)) {
            return UNKNOWN;
        }
        return inquiry.count >= ASK_LIMIT ? FULL : inquiry.note(m, name, lit);
    }

    public int changed(int i) {
        if (i == -2) {
            return inquiry.fits(built, Inquiry.UNCHANGED) ? 1 : 0;
        }
        int pairs = inquiry.findPairs(built);
        if (i == NONE) {
            return pairs;
        }
        return i >= 0 && i < pairs ? at(inquiry.fitting, i) : NONE;
    }

    public int askNext() {
        return inquiry.bestQuestion(built);
    }

    public int called(int m) {
        return built.hasMirror(m) ? inquiry.namesThatFit(m) : UNKNOWN;
    }

    public int write(int m, int name) {
        if (!built.hasMirror(m) || !isName(name)) {
            return UNKNOWN;
        }
        return book.count >= BOOK_LIMIT ? FULL : book.enter(m, name);
    }

    public int tear() {
        int had = inquiry.count + book.count;
        inquiry.forget();
        book.count = 0;
        return had;
    }

    public int judge() {
        return book.firstWrong(now);
    }

    // ---- draws, images

    public int seed(int v) {
        if (v < 0) {
            return OUTSIDE;
        }
        int was = (int) draws.seed;
        draws.seed = v;
        return was;
    }

    public int keep(int i) {
        Image image = imageOf(i);
        if (image == null) {
            return UNKNOWN;
        }
        image.state.become(now);
        image.seed = draws.seed;
        image.kept = true;
        past.forget();
        return 1;
    }

    public int goBack(int i) {
        Image image = imageOf(i);
        if (image == null) {
            return UNKNOWN;
        }
        if (!image.kept) {
            return NOT;
        }
        now.become(image.state);
        draws.seed = image.seed;
        past.forget();
        return 1;
    }

    private Image imageOf(int i) {
        if (i == 0) {
            return firstImage;
        }
        return i == 1 ? secondImage : null;
    }

    // ---- rows and sets: every element is reached through these, so that none is missed by its index

    private static int at(int[] row, int i) {
        return i >= 0 && i < row.length ? row[i] : 0;
    }

    private static void put(int[] row, int i, int value) {
        if (i >= 0 && i < row.length) {
            row[i] = value;
        }
    }

    private static void copy(int[] from, int[] to) {
        for (int i = 0; i < from.length && i < to.length; i++) {
            to[i] = from[i];
        }
    }

    private static void fill(int[] row, int value) {
        for (int i = 0; i < row.length; i++) {
            row[i] = value;
        }
    }

    private static boolean has(int set, int k) {
        return k >= 0 && k < 31 && (set >> k & 1) != 0;
    }

    private static int with(int set, int k, boolean is) {
        if (k < 0 || k >= 31) {
            return set;
        }
        return is ? set | 1 << k : set & ~(1 << k);
    }

    private static boolean isName(int name) {
        return name >= 0 && name < NAME_LIMIT;
    }

    /** What the text tells; it stays as it is till the next house. */
    private static final class House {
        private int rooms;
        private int known;
        private int doors;
        private int mirrors;
        private int persons;
        private final int[] doorFrom = new int[DOOR_LIMIT];
        private final int[] doorTo = new int[DOOR_LIMIT];
        private final int[] mirrorRoom = new int[MIRROR_LIMIT];
        private final int[] toldName = new int[MIRROR_LIMIT];
        private final int[] opposite = new int[MIRROR_LIMIT];
        private final int[] nameBreath = new int[NAME_LIMIT];
        private final int[] personRoom = new int[PERSON_LIMIT];

        private void empty() {
            rooms = 0;
            known = 0;
            doors = 0;
            mirrors = 0;
            persons = 0;
            fill(opposite, NONE);
            fill(nameBreath, 0);
        }

        private boolean hasRoom(int room) {
            return room >= 0 && room < rooms;
        }

        private boolean hasDoor(int d) {
            return d >= 0 && d < doors;
        }

        private boolean hasMirror(int m) {
            return m >= 0 && m < mirrors;
        }

        private boolean hasPerson(int p) {
            return p >= 0 && p < persons;
        }

        private int allMirrors() {
            return (1 << mirrors) - 1;
        }

        private int mirrorsIn(int room) {
            int set = 0;
            for (int m = 0; m < mirrors; m++) {
                if (at(mirrorRoom, m) == room) {
                    set = with(set, m, true);
                }
            }
            return set;
        }

        /** The mirror opposite that was hung ahead of this one, if there is one. */
        private int hungAhead(int m) {
            int other = at(opposite, m);
            return other < m ? other : NONE;
        }

        /** No breath told for a name is held as 0. */
        private int breathOf(int name) {
            return Math.max(1, at(nameBreath, name));
        }

        private boolean haveDoor(int a, int b) {
            for (int d = 0; d < doors; d++) {
                int from = at(doorFrom, d);
                int to = at(doorTo, d);
                if (from == a && to == b || from == b && to == a) {
                    return true;
                }
            }
            return false;
        }

        private void addDoor(int from, int to) {
            put(doorFrom, doors, from);
            put(doorTo, doors, to);
            doors++;
        }

        private void addMirror(int room, int name) {
            put(mirrorRoom, mirrors, room);
            put(toldName, mirrors, name);
            mirrors++;
        }

        private void addPerson(int room) {
            put(personRoom, persons, room);
            persons++;
        }
    }

    /** The text and its grammar; the first fault that is marked is the one that counts. */
    private static final class Reader {
        private static final int MISPLACED = 1;
        private static final int OUT_OF_BOUNDS = 2;
        private static final int TOO_MANY = 3;
        private static final int CLASHING = 4;

        private final int[] letters = new int[TEXT_LIMIT];
        private int length;
        private int place;
        private int numberPlace;
        private int fault;
        private int faultPlace = NONE;

        private int append(int letter) {
            put(letters, length, letter);
            length++;
            return length;
        }

        /** Reads the text and empties it; the house is of use only if the answer, the fault, is 0. */
        private int readInto(House house) {
            house.empty();
            place = 0;
            fault = 0;
            faultPlace = NONE;
            skipBlanks();
            for (int clause = 0; clause < TEXT_LIMIT && place < length && fault == 0; clause++) {
                int word = readWord(house);
                readNumbers(house, word);
                readEnd();
            }
            length = 0;
            return fault;
        }

        private int readWord(House house) {
            int word = here();
            boolean canStand = house.rooms == 0 ? word == 'h' : isWord(word);
            if (!canStand) {
                mark(MISPLACED, place);
            } else if (isOneTooMany(house, word)) {
                mark(TOO_MANY, place);
            }
            place++;
            return word;
        }

        private boolean isWord(int letter) {
            switch (letter) {
                case 'h':
                case 'd':
                case 'm':
                case 'o':
                case 'b':
                case 'p':
                    return true;
                default:
                    return false;
            }
        }

        private boolean isOneTooMany(House house, int word) {
            switch (word) {
                case 'h': return house.rooms > 0;
                case 'd': return house.doors >= DOOR_LIMIT;
                case 'm': return house.mirrors >= MIRROR_LIMIT;
                case 'p': return house.persons >= PERSON_LIMIT;
                default: return false;
            }
        }

        private void readNumbers(House house, int word) {
            switch (word) {
                case 'h':
                    readRooms(house);
                    break;
                case 'd':
                    readDoor(house);
                    break;
                case 'm':
                    readMirror(house);
                    break;
                case 'o':
                    readOpposite(house);
                    break;
                case 'b':
                    readBreath(house);
                    break;
                case 'p':
                    readPerson(house);
                    break;
                default:
                    break;
            }
        }

        private void readRooms(House house) {
            house.rooms = readNumber(1, ROOM_LIMIT);
            house.known = readNumber(0, (1 << NAME_LIMIT) - 1);
        }

        private void readDoor(House house) {
            int from = readNumber(0, house.rooms - 1);
            int to = readNumber(0, house.rooms - 1);
            if (from == to || house.haveDoor(from, to)) {
                mark(CLASHING, numberPlace);
            }
            if (fault == 0) {
                house.addDoor(from, to);
            }
        }

        private void readMirror(House house) {
            int room = readNumber(0, house.rooms - 1);
            int name = readNumber(0, NAME_LIMIT - 1);
            if (fault == 0) {
                house.addMirror(room, name);
            }
        }

        private void readOpposite(House house) {
            int x = readNumber(0, house.mirrors - 1);
            if (at(house.opposite, x) != NONE) {
                mark(CLASHING, numberPlace);
            }
            int y = readNumber(0, house.mirrors - 1);
            if (at(house.opposite, y) != NONE || x == y || at(house.mirrorRoom, x) != at(house.mirrorRoom, y)) {
                mark(CLASHING, numberPlace);
            }
            if (fault == 0) {
                put(house.opposite, x, y);
                put(house.opposite, y, x);
            }
        }

        private void readBreath(House house) {
            int name = readNumber(0, NAME_LIMIT - 1);
            if (at(house.nameBreath, name) != 0) {
                mark(CLASHING, numberPlace);
            }
            int breath = readNumber(1, 9);
            if (fault == 0) {
                put(house.nameBreath, name, breath);
            }
        }

        private void readPerson(House house) {
            int room = readNumber(0, house.rooms - 1);
            if (fault == 0) {
                house.addPerson(room);
            }
        }

        /** Its first figure is where a fault of the number stands; behind a fault nothing is read any more. */
        private int readNumber(int least, int most) {
            if (fault != 0) {
                return 0;
            }
            skipBlanks();
            numberPlace = place;
            int value = 0;
            while (place < length && isFigure(here())) {
                if (place - numberPlace < 4) {
                    value = value * 10 + here() - '0';
                }
                place++;
            }
            int figures = place - numberPlace;
            if (figures == 0) {
                mark(MISPLACED, numberPlace);
            } else if (figures > 4 || value < least || value > most) {
                mark(OUT_OF_BOUNDS, numberPlace);
            }
            return value;
        }

        private void readEnd() {
            skipBlanks();
            if (here() != ';') {
                mark(MISPLACED, place);
            }
            place++;
            skipBlanks();
        }

        private void skipBlanks() {
            while (place < length && here() == ' ') {
                place++;
            }
        }

        private boolean isFigure(int letter) {
            return letter >= '0' && letter <= '9';
        }

        /** The letter at the place; behind the end a number that no letter has. */
        private int here() {
            return place >= 0 && place < length && place < letters.length ? letters[place] : NONE;
        }

        private void mark(int kind, int where) {
            if (fault == 0) {
                fault = kind;
                faultPlace = where;
            }
        }
    }

    /** All that steps, greetings, evenings and nights change. */
    private static final class State {
        private int room;
        private int known;
        private int lit;
        private int spoilt;
        private int steamed;
        private int shut;
        private int breath;
        private int nights;
        private final int[] name = new int[MIRROR_LIMIT];
        private final int[] otherName = new int[MIRROR_LIMIT];
        private final int[] otherCount = new int[MIRROR_LIMIT];
        private final int[] personRoom = new int[PERSON_LIMIT];

        private void startIn(House house) {
            room = 0;
            known = house.known;
            lit = 0;
            spoilt = 0;
            steamed = 0;
            shut = 0;
            breath = 0;
            nights = 0;
            copy(house.toldName, name);
            fill(otherName, NONE);
            fill(otherCount, 0);
            copy(house.personRoom, personRoom);
        }

        private void become(State other) {
            room = other.room;
            known = other.known;
            lit = other.lit;
            spoilt = other.spoilt;
            steamed = other.steamed;
            shut = other.shut;
            breath = other.breath;
            nights = other.nights;
            copy(other.name, name);
            copy(other.otherName, otherName);
            copy(other.otherCount, otherCount);
            copy(other.personRoom, personRoom);
        }

        /** The mirror hears itself greeted: whether it is lit by that. */
        private boolean hear(House house, int m, int called) {
            if (called != at(name, m)) {
                countOther(m, called);
                return false;
            }
            endCount(m);
            if (has(lit, m) || has(spoilt, m)) {
                return false;
            }
            int ahead = house.hungAhead(m);
            if (ahead != NONE && !has(lit, ahead) && !has(spoilt, ahead)) {
                spoilt = with(with(spoilt, m, true), ahead, true);
                return false;
            }
            lit = with(lit, m, true);
            return true;
        }

        private void countOther(int m, int called) {
            int count = at(otherName, m) == called ? at(otherCount, m) + 1 : 1;
            if (count == 3) {
                put(name, m, called);
                endCount(m);
            } else {
                put(otherName, m, called);
                put(otherCount, m, count);
            }
        }

        private void endCount(int m) {
            put(otherName, m, NONE);
            put(otherCount, m, 0);
        }

        /** The rooms one door that is not shut away. */
        private int openBeside(House house, int from) {
            int set = 0;
            for (int d = 0; d < house.doors; d++) {
                if (!has(shut, d)) {
                    int a = at(house.doorFrom, d);
                    int b = at(house.doorTo, d);
                    if (a == from) {
                        set = with(set, b, true);
                    } else if (b == from) {
                        set = with(set, a, true);
                    }
                }
            }
            return set;
        }

        /** The rooms into which a mirror of that room shows. */
        private int seenFrom(House house, int from) {
            return with(openBeside(house, from), from, true);
        }

        private int personsIn(House house, int rooms) {
            int count = 0;
            for (int p = 0; p < house.persons; p++) {
                if (has(rooms, at(personRoom, p))) {
                    count++;
                }
            }
            return count;
        }
    }

    /** The states that can come again, in a ring: the newest takes the place of the oldest. */
    private static final class Past {
        private final State[] ring = new State[UNDO_LIMIT];
        private int next;
        private int count;

        private Past() {
            for (int i = 0; i < ring.length; i++) {
                ring[i] = new State();
            }
        }

        private State stateAt(int i) {
            return i >= 0 && i < ring.length ? ring[i] : null;
        }

        private void push(State now) {
            State kept = stateAt(next);
            if (kept == null) {
                return;
            }
            kept.become(now);
            next = next + 1 < ring.length ? next + 1 : 0;
            count = Math.min(count + 1, ring.length);
        }

        private int pop(State now) {
            int latest = next > 0 ? next - 1 : ring.length - 1;
            State kept = stateAt(latest);
            if (kept == null || count == 0) {
                return NOT;
            }
            now.become(kept);
            next = latest;
            count--;
            return count;
        }

        private void forget() {
            count = 0;
        }
    }

    /** A state kept apart, with the seed that it had. */
    private static final class Image {
        private final State state = new State();
        private long seed;
        private boolean kept;
    }

    /** Ways from where one is and from mirror to mirror, and the round of least breath. */
    private static final class Rounds {
        // Where one is counts as one mirror more, behind all others, from which a round begins.
        private static final int START = MIRROR_LIMIT;
        private static final int PLACES = MIRROR_LIMIT + 1;
        // Far above every round: seven greetings of 9 and seven ways of 6.
        private static final int NO_WAY = 1000000;

        private final int[] far = new int[ROOM_LIMIT];
        private final int[] here = new int[ROOM_LIMIT];
        private final int[] way = new int[PLACES * PLACES];
        private final int[] least = new int[PLACES << MIRROR_LIMIT];
        private int reachable;
        private int wanted;
        private int lit;

        /** Steps from where one is to every room, and which mirrors one can come to. */
        private void measure(House house, State now) {
            measureFrom(house, now, now.room);
            copy(far, here);
            reachable = 0;
            for (int m = 0; m < house.mirrors; m++) {
                if (fromHere(at(house.mirrorRoom, m)) != NONE) {
                    reachable = with(reachable, m, true);
                }
            }
        }

        private int fromHere(int room) {
            return at(here, room);
        }

        private void measureFrom(House house, State now, int from) {
            fill(far, NONE);
            int edge = with(0, from, true);
            int found = 0;
            for (int steps = 0; steps < house.rooms; steps++) {
                found |= edge;
                int beyond = 0;
                for (int room = 0; room < house.rooms; room++) {
                    if (has(edge, room)) {
                        put(far, room, steps);
                        beyond |= now.openBeside(house, room);
                    }
                }
                edge = beyond & ~found;
            }
        }

        /** Whether one could greet it and it would answer, whatever hangs opposite. */
        private boolean canGreet(State now, int m) {
            return has(reachable, m) && has(now.known, at(now.name, m)) && !has(now.spoilt, m);
        }

        /** Looks for the round that lights the set, of which none is lit: whether there is one. */
        private boolean plan(House house, State now, int set) {
            measure(house, now);
            wanted = set;
            lit = now.lit;
            for (int m = 0; m < house.mirrors; m++) {
                if (has(set, m) && !canGreet(now, m)) {
                    return false;
                }
            }
            measureWays(house, now);
            for (int left = 1; left <= set; left++) {
                if ((left & ~set) == 0) {
                    weigh(house, left);
                }
            }
            return leastFrom(set, START) < NO_WAY;
        }

        private void measureWays(House house, State now) {
            for (int m = 0; m < house.mirrors; m++) {
                put(way, START * PLACES + m, fromHere(at(house.mirrorRoom, m)));
            }
            for (int from = 0; from < house.mirrors; from++) {
                if (has(wanted, from)) {
                    measureFrom(house, now, at(house.mirrorRoom, from));
                    for (int m = 0; m < house.mirrors; m++) {
                        put(way, from * PLACES + m, at(far, at(house.mirrorRoom, m)));
                    }
                }
            }
        }

        /** Fewest steps for all that is left, from each place where one may stand then. */
        private void weigh(House house, int left) {
            for (int from = 0; from < house.mirrors; from++) {
                if (has(wanted & ~left, from)) {
                    put(least, left * PLACES + from, weighFrom(house, left, from));
                }
            }
            if (left == wanted) {
                put(least, left * PLACES + START, weighFrom(house, left, START));
            }
        }

        private int weighFrom(House house, int left, int from) {
            int best = NO_WAY;
            for (int m = 0; m < house.mirrors; m++) {
                best = Math.min(best, stepsBy(house, left, from, m));
            }
            return best;
        }

        /** Fewest steps for all that is left, if that mirror is the next. */
        private int stepsBy(House house, int left, int from, int m) {
            if (!has(left, m)) {
                return NO_WAY;
            }
            int ahead = house.hungAhead(m);
            int litByThen = lit | wanted & ~left;
            if (ahead != NONE && !has(litByThen, ahead)) {
                return NO_WAY;
            }
            return Math.min(NO_WAY, at(way, from * PLACES + m) + leastFrom(with(left, m, false), m));
        }

        private int leastFrom(int left, int from) {
            return left == 0 ? 0 : at(least, left * PLACES + from);
        }

        private int breath(House house, State now) {
            int sum = leastFrom(wanted, START);
            for (int m = 0; m < house.mirrors; m++) {
                if (has(wanted, m)) {
                    sum += house.breathOf(at(now.name, m));
                }
            }
            return sum;
        }

        /** The i-th of the planned round; of like rounds the lesser mirror goes first. */
        private int mirrorAt(House house, int i) {
            int left = wanted;
            int from = START;
            for (int k = 0; k < house.mirrors && left != 0; k++) {
                int m = nextOf(house, left, from);
                if (k == i || m == NONE) {
                    return m;
                }
                left = with(left, m, false);
                from = m;
            }
            return NONE;
        }

        private int nextOf(House house, int left, int from) {
            int best = leastFrom(left, from);
            for (int m = 0; m < house.mirrors; m++) {
                if (has(left, m) && stepsBy(house, left, from, m) == best) {
                    return m;
                }
            }
            return NONE;
        }
    }

    /** What was asked, and which changes behind the silver fit it. */
    private static final class Inquiry {
        // A mirror that changes with itself: nothing is changed.
        private static final int UNCHANGED = 0;
        private static final int GUESS_LIMIT = MIRROR_LIMIT * (MIRROR_LIMIT - 1) / 2 + 1;

        private final int[] mirrors = new int[ASK_LIMIT];
        private final int[] names = new int[ASK_LIMIT];
        private final int[] answers = new int[ASK_LIMIT];
        private final int[] fitting = new int[GUESS_LIMIT];
        private int count;

        private int note(int m, int name, boolean lit) {
            put(mirrors, count, m);
            put(names, count, name);
            put(answers, count, lit ? 1 : 0);
            count++;
            return count;
        }

        private void forget() {
            count = 0;
        }

        /** The name of a mirror, if the two that the guess tells (in tens and ones) have one another's. */
        private int nameBy(House house, int guess, int m) {
            int a = guess / 10;
            int b = guess % 10;
            if (m == a) {
                return at(house.toldName, b);
            }
            return at(house.toldName, m == b ? a : m);
        }

        private boolean fits(House house, int guess) {
            for (int k = 0; k < count; k++) {
                boolean answered = nameBy(house, guess, at(mirrors, k)) == at(names, k);
                if (answered != (at(answers, k) == 1)) {
                    return false;
                }
            }
            return true;
        }

        /** Puts the pairs that fit, rising, into the row of the fitting: how many. */
        private int findPairs(House house) {
            int found = 0;
            for (int a = 0; a < house.mirrors; a++) {
                for (int b = a + 1; b < house.mirrors; b++) {
                    int guess = 10 * a + b;
                    if (at(house.toldName, a) != at(house.toldName, b) && fits(house, guess)) {
                        put(fitting, found, guess);
                        found++;
                    }
                }
            }
            return found;
        }

        private int bestQuestion(House house) {
            int guesses = findPairs(house);
            if (fits(house, UNCHANGED)) {
                put(fitting, guesses, UNCHANGED);
                guesses++;
            }
            int best = NONE;
            int least = guesses;
            for (int m = 0; m < house.mirrors; m++) {
                for (int name = 0; name < NAME_LIMIT; name++) {
                    int part = greatestPart(house, guesses, m, name);
                    if (part < least) {
                        least = part;
                        best = 10 * m + name;
                    }
                }
            }
            return best;
        }

        private int greatestPart(House house, int guesses, int m, int name) {
            int answering = 0;
            for (int k = 0; k < guesses; k++) {
                if (nameBy(house, at(fitting, k), m) == name) {
                    answering++;
                }
            }
            return Math.max(answering, guesses - answering);
        }

        private int namesThatFit(int m) {
            int set = (1 << NAME_LIMIT) - 1;
            for (int k = 0; k < count; k++) {
                if (at(mirrors, k) == m) {
                    int named = with(0, at(names, k), true);
                    set &= at(answers, k) == 1 ? named : ~named;
                }
            }
            return set;
        }
    }

    /** Names of mirrors as somebody wrote them down. */
    private static final class Book {
        private final int[] mirrors = new int[BOOK_LIMIT];
        private final int[] names = new int[BOOK_LIMIT];
        private int count;

        private int enter(int m, int name) {
            put(mirrors, count, m);
            put(names, count, name);
            count++;
            return count;
        }

        private int firstWrong(State now) {
            for (int k = 0; k < count; k++) {
                if (at(now.name, at(mirrors, k)) != at(names, k)) {
                    return k;
                }
            }
            return NONE;
        }
    }

    /** The seed and what is drawn by it. */
    private static final class Draws {
        private long seed;

        private int next(int n) {
            seed = seed * 1103515245L + 12345L & 2147483647L;
            return n > 0 ? (int) (seed / 65536L % n) : 0;
        }
    }
}
