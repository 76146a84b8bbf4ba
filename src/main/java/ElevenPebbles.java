/** Mazes of rooms all alike, walkers who put pebbles and take them, and what can be known of both. */
public final class ElevenPebbles {
    public static final int NONE = -1, BAD = -2, STATE = -3, FULL = -4;

    private static final int NO_SUCH_ANSWER = -5, NO_SUCH_SAYING = -1000000;
    private static final int NOTHING = -11, OUTSIDE = -12, OTHER_SORT = -13, BELOW_ZERO = -14;
    private static final int FAULTS = -100;

    private static final int MAZES = 4, ROOMS = 10, DOORS = 4, WALKERS = 8, TEXTS = 6, SHEETS = 4;
    private static final int TAPE_SIZE = 160, SHEET_SIZE = 40, SORTS = 3;
    private static final int MOST_PEBBLES = 99, MOST_IN_BAG = 11, MOST_NUMBER = 9;
    private static final int MOST_STEPS = 100, FAR = 200;

    private static final int WALKER = 0, HAND = 1, DRAWS = 2, TOLD = 3, SHY = 4, LOST = 5, KINDS = 6;
    private static final int[] KIND_ABOVE = {NONE, WALKER, WALKER, HAND, DRAWS, DRAWS};

    private static final int GO = 0, PUT = 1, TAKE = 2, SAYINGS = 3;
    private static final int CAME = 0, LEADING = 1, LYING = 2, BAG = 3, STEPS = 4, NUMBER = 5, NAMES = 6;
    private static final String FIRST_TEXT = "go 1 ; put pebbles = 0 ; take 0 ;";

    private final Tape tape = new Tape();
    private final Maze[] mazes = new Maze[MAZES];
    private int mazeCount;
    private final Walker[] walkers = new Walker[WALKERS];
    private int walkerCount;
    private final Rule[] rules = new Rule[TEXTS];
    private int ruleCount;
    private int ruleNow;
    private final Sheet[] sheets = new Sheet[SHEETS];
    private final Image kept = new Image();
    private final Sight sight = new Sight();
    private final Walker ghost = new Walker();
    private final Walker otherGhost = new Walker();
    private final int[] ghostPebbles = new int[ROOMS];
    private final Trail trail = new Trail();
    private final Spread spread = new Spread();
    private final Parting parting = new Parting();
    private final Tour tour = new Tour();

    public ElevenPebbles() {
        for (int k = 0; k < MAZES; k++) {
            mazes[k] = new Maze();
        }
        for (int k = 0; k < WALKERS; k++) {
            walkers[k] = new Walker();
        }
        for (int k = 0; k < TEXTS; k++) {
            rules[k] = new Rule();
        }
        for (int k = 0; k < SHEETS; k++) {
            sheets[k] = new Sheet();
        }
        readFirstText();
    }

    // ---- texts, mazes

    public int feed(int n, long bytes) {
        if (n < 1 || n > 8) {
            return BAD;
        }
        if (n > TAPE_SIZE - tape.size) {
            return FULL;
        }
        long rest = bytes;
        for (int k = 0; k < n; k++) {
            tape.append((byte) rest);
            rest = rest >> 8;
        }
        return tape.size;
    }

    public int maze() {
        if (mazeCount >= MAZES) {
            return FULL;
        }
        int fault = mazes[mazeCount].read(tape.bytes, tape.size);
        tape.size = 0;
        if (fault != NONE) {
            return FAULTS - fault;
        }
        mazeCount++;
        return mazeCount - 1;
    }

    public int text() {
        if (ruleCount >= TEXTS) {
            return FULL;
        }
        int fault = tape.readText();
        tape.size = 0;
        if (fault != NONE) {
            return FAULTS - fault;
        }
        rules[ruleCount].become(tape.made);
        ruleCount++;
        return ruleCount - 1;
    }

    public int force(int text) {
        if (!isInside(text, ruleCount)) {
            return BAD;
        }
        int was = ruleNow;
        ruleNow = text;
        return was;
    }

    public int leads(int maze, int room, int door) {
        Maze m = mazeAt(maze);
        if (m == null) {
            return BAD;
        }
        if (room == NONE) {
            return m.rooms;
        }
        if (!m.hasRoom(room) || !isInside(door, DOORS)) {
            return BAD;
        }
        return m.target(room, door);
    }

    public int pebbles(int maze, int room, int n) {
        Maze m = mazeAt(maze);
        if (m == null || !m.hasRoom(room) || n < 0 || n > MOST_PEBBLES) {
            return BAD;
        }
        int lay = itemAt(m.pebbles, room);
        setItem(m.pebbles, room, n);
        return lay;
    }

    // ---- walkers

    public int walker(int kind, int where, int has) {
        Maze m = mazeAt(where / 10);
        int number = has / 100;
        int bag = has % 100;
        if (!isInside(kind, KINDS) || m == null || !m.hasRoom(where % 10)) {
            return BAD;
        }
        if (number < 0 || number > MOST_NUMBER || bag < 0 || bag > MOST_IN_BAG) {
            return BAD;
        }
        if (walkerCount >= WALKERS) {
            return FULL;
        }
        Walker w = walkers[walkerCount];
        w.kind = kind;
        w.maze = where / 10;
        w.room = where % 10;
        w.number = number;
        w.bag = bag;
        walkerCount++;
        return walkerCount - 1;
    }

    public int told(int walker, int what) {
        Walker w = walkerAt(walker);
        if (w == null) {
            return NO_SUCH_ANSWER;
        }
        switch (what) {
            case 0: return w.kind;
            case 1: return w.maze;
            case 2: return w.room;
            case 3: return w.came;
            case 4: return w.number;
            case 5: return w.bag;
            case 6: return w.steps;
            case 7: return wantsNow(w);
            case 8: return w.goneFromHere();
            default: return NO_SUCH_ANSWER;
        }
    }

    public int says(int walker, int key) {
        Walker w = walkerAt(walker);
        if (w == null || !isInside(key, SAYINGS)) {
            return NO_SUCH_SAYING;
        }
        Maze m = mazeAt(w.maze);
        if (m == null) {
            return NO_SUCH_SAYING;
        }
        sight.look(w, m, m.pebbles);
        return saying(key);
    }

    public int step(int walker, int n) {
        Walker w = walkerAt(walker);
        if (w == null || n < 1 || n > MOST_STEPS) {
            return BAD;
        }
        Maze m = mazeAt(w.maze);
        if (m == null) {
            return BAD;
        }
        for (int k = 0; k < n; k++) {
            goOneStep(w, m, m.pebbles);
        }
        return w.room;
    }

    public int run(int walker, int n, int what) {
        Walker w = walkerAt(walker);
        if (w == null || n < 0 || n > FAR || !isInside(what, 3)) {
            return BAD;
        }
        Maze m = mazeAt(w.maze);
        if (m == null) {
            return BAD;
        }
        ghost.become(w);
        copyRow(m.pebbles, ghostPebbles);
        for (int k = 0; k < n; k++) {
            goOneStep(ghost, m, ghostPebbles);
        }
        if (what == 0) {
            return ghost.room;
        }
        return what == 1 ? ghost.bag : ghost.steps;
    }

    public int ring(int walker, int what) {
        Walker w = walkerAt(walker);
        if (w == null || !isInside(what, 2)) {
            return BAD;
        }
        Maze m = mazeAt(w.maze);
        if (m == null) {
            return BAD;
        }
        sight.withoutSteps = true;
        int last = stepsTillSeenAgain(w, m);
        sight.withoutSteps = false;
        if (last == NONE) {
            return NONE;
        }
        int first = trail.elderLike(last);
        return what == 0 ? first : last - first;
    }

    public int meet(int a, int b) {
        Walker lesser = walkerAt(Math.min(a, b));
        Walker greater = walkerAt(Math.max(a, b));
        if (lesser == null || greater == null || a == b || lesser.maze != greater.maze) {
            return BAD;
        }
        Maze m = mazeAt(lesser.maze);
        if (m == null) {
            return BAD;
        }
        ghost.become(lesser);
        otherGhost.become(greater);
        copyRow(m.pebbles, ghostPebbles);
        for (int k = 0; k <= FAR; k++) {
            if (ghost.room == otherGhost.room) {
                return k;
            }
            goOneStep(k % 2 == 0 ? ghost : otherGhost, m, ghostPebbles);
        }
        return NONE;
    }

    // ---- what can be known

    public int alike(int maze, int room) {
        Maze m = mazeAt(maze);
        if (m == null) {
            return BAD;
        }
        if (room == NONE) {
            return countParts(m);
        }
        return m.hasRoom(room) ? leastAlike(m, room) : BAD;
    }

    public int tells(int one, int other, int what) {
        Maze m = mazeAt(one / 10);
        Maze n = mazeAt(other / 10);
        if (m == null || n == null || !m.hasRoom(one % 10) || !n.hasRoom(other % 10)) {
            return BAD;
        }
        if (!isInside(what, 2)) {
            return BAD;
        }
        parting.seek(m, one % 10, n, other % 10);
        return what == 0 ? parting.goings : parting.walk;
    }

    public int way(int maze, int rooms) {
        Maze m = mazeAt(maze);
        if (m == null || !m.hasRoom(rooms / 10) || !m.hasRoom(rooms % 10)) {
            return BAD;
        }
        spread.from(m, rooms / 10);
        return itemAt(spread.goings, rooms % 10);
    }

    public int all(int maze, int room) {
        Maze m = mazeAt(maze);
        if (m == null || !m.hasRoom(room)) {
            return BAD;
        }
        return tour.least(m, room);
    }

    public int free(int maze) {
        Maze m = mazeAt(maze);
        if (m == null) {
            return BAD;
        }
        int bits = 0;
        for (int room = 0; room < m.rooms; room++) {
            if (spread.from(m, room) == m.rooms) {
                bits |= 1 << room;
            }
        }
        return bits;
    }

    public int begins(int maze, int sheet, int what) {
        Maze m = mazeAt(maze);
        Sheet s = sheetAt(sheet);
        if (m == null || s == null || !isInside(what, 2)) {
            return BAD;
        }
        if (s.isMissing()) {
            return NOTHING;
        }
        if (!s.isWalk()) {
            return BAD;
        }
        int bits = 0;
        int lastBar = NONE;
        for (int room = 0; room < m.rooms; room++) {
            int bar = barOf(m, s, room);
            if (bar == NONE) {
                bits |= 1 << room;
            }
            lastBar = Math.max(lastBar, bar);
        }
        if (what == 0) {
            return bits;
        }
        return bits == 0 ? lastBar : NONE;
    }

    public int image() {
        kept.isKept = true;
        kept.mazes = mazeCount;
        kept.walkers = walkerCount;
        kept.rule = ruleNow;
        for (int k = 0; k < mazeCount; k++) {
            copyRow(mazes[k].pebbles, kept.pebbles[k]);
        }
        for (int k = 0; k < walkerCount; k++) {
            kept.states[k].become(walkers[k]);
        }
        return walkerCount;
    }

    public int back() {
        if (!kept.isKept) {
            return STATE;
        }
        ruleNow = kept.rule;
        for (int k = 0; k < kept.mazes; k++) {
            copyRow(kept.pebbles[k], mazes[k].pebbles);
        }
        for (int k = 0; k < kept.walkers; k++) {
            walkers[k].become(kept.states[k]);
        }
        return walkerCount;
    }

    public int count(int what) {
        switch (what) {
            case 0: return mazeCount;
            case 1: return walkerCount;
            case 2: return ruleCount;
            case 3: return tape.size;
            case 4: return ruleNow;
            case 5: return sumOfLying();
            case 6: return sumOfBags();
            default: return BAD;
        }
    }

    // ---- the host

    public int sheet(int sheet, int sort, int n) {
        Sheet s = sheetAt(sheet);
        if (s == null || sort < NONE || sort >= SORTS) {
            return BAD;
        }
        if (sort == NONE) {
            s.clear(NONE, 0);
            return 1;
        }
        if (n > SHEET_SIZE) {
            return BAD;
        }
        if (n < 0) {
            return BELOW_ZERO;
        }
        s.clear(sort, n);
        return 1;
    }

    public int cell(int sheet, int i, int v) {
        Sheet s = sheetAt(sheet);
        if (s == null) {
            return BAD;
        }
        if (s.isMissing()) {
            return NOTHING;
        }
        if (!isInside(i, s.size)) {
            return OUTSIDE;
        }
        setItem(s.items, i, s.narrowed(v));
        return 1;
    }

    public int copy(int sheet, int i, int other, int j, int n) {
        Sheet s = sheetAt(sheet);
        Sheet t = sheetAt(other);
        if (s == null || t == null) {
            return BAD;
        }
        if (s.isMissing() || t.isMissing()) {
            return NOTHING;
        }
        if (s.sort != t.sort) {
            return OTHER_SORT;
        }
        if (!s.hasItems(i, n) || !t.hasItems(j, n)) {
            return OUTSIDE;
        }
        System.arraycopy(s.items, i, t.items, j, n);
        return n;
    }

    public int walkers(int sheet, int sort, int from, int n) {
        Sheet s = sheetAt(sheet);
        if (s == null || !isInside(sort, SORTS) || n < 0 || n > WALKERS) {
            return BAD;
        }
        if (s.isMissing()) {
            return NOTHING;
        }
        if (s.sort != sort) {
            return OTHER_SORT;
        }
        int came = 0;
        for (int k = 0; k < n; k++) {
            int i = from + 3 * k;
            if (!s.hasItems(i, 3)) {
                return OUTSIDE;
            }
            if (walker(itemAt(s.items, i), itemAt(s.items, i + 1), itemAt(s.items, i + 2)) >= 0) {
                came++;
            }
        }
        return came;
    }

    public int taken(int walker, int k) {
        if (!isInside(k, KINDS)) {
            return BAD;
        }
        Walker w = walkerAt(walker);
        if (w == null) {
            return NOTHING;
        }
        return isUnder(w.kind, k) ? w.number : OTHER_SORT;
    }

    // ---- things by their numbers: null where there is none such

    private Maze mazeAt(int i) {
        return isInside(i, mazeCount) && i < MAZES ? mazes[i] : null;
    }

    private Walker walkerAt(int i) {
        return isInside(i, walkerCount) && i < WALKERS ? walkers[i] : null;
    }

    private Sheet sheetAt(int i) {
        return isInside(i, SHEETS) ? sheets[i] : null;
    }

    private static boolean isInside(int i, int n) {
        return i >= 0 && i < n;
    }

    private static int itemAt(int[] row, int i) {
        return i >= 0 && i < row.length ? row[i] : NONE;
    }

    private static void setItem(int[] row, int i, int v) {
        if (i >= 0 && i < row.length) {
            row[i] = v;
        }
    }

    private static void copyRow(int[] from, int[] to) {
        System.arraycopy(from, 0, to, 0, Math.min(from.length, to.length));
    }

    private static boolean isUnder(int kind, int above) {
        int at = kind;
        for (int k = 0; k < KINDS && at != NONE; k++) {
            if (at == above) {
                return true;
            }
            at = itemAt(KIND_ABOVE, at);
        }
        return false;
    }

    private void readFirstText() {
        for (int k = 0; k < FIRST_TEXT.length(); k++) {
            tape.append((byte) FIRST_TEXT.charAt(k));
        }
        tape.readText();
        rules[0].become(tape.made);
        ruleCount = 1;
        tape.size = 0;
    }

    // ---- steps

    private int saying(int key) {
        int now = isInside(ruleNow, TEXTS) ? ruleNow : 0;
        return rules[now].comesTo(key, sight.names, sight.stack);
    }

    private int wantsNow(Walker w) {
        Maze m = mazeAt(w.maze);
        if (m == null) {
            return NONE;
        }
        sight.look(w, m, m.pebbles);
        return wants(w, m.leading(w.room), itemAt(m.pebbles, w.room) > 0, saying(GO));
    }

    /** The door that a walker takes, of those that lead on (bits). */
    private static int wants(Walker w, int leading, boolean pebblesLie, int go) {
        int fresh = leading & ~w.goneFromHere();
        int byRule = firstFrom(leading, w.came + go);
        switch (w.kind) {
            case HAND: return firstFrom(leading, w.came + 1);
            case TOLD: return firstFrom(leading, w.came + (pebblesLie ? w.number : 1));
            case DRAWS: return fresh != 0 ? firstFrom(fresh, 0) : byRule;
            case LOST: return fresh != 0 ? greatestOf(fresh) : byRule;
            case SHY:
                if (pebblesLie && (leading >> w.came & 1) != 0) {
                    return w.came;
                }
                return fresh != 0 ? firstFrom(fresh, 0) : byRule;
            default: return byRule;
        }
    }

    /** The mask is modulo 4, not below 0, even where the sum has wrapped. */
    private static int firstFrom(int doors, int from) {
        for (int k = 0; k < DOORS; k++) {
            int door = (from + k) & 3;
            if ((doors >> door & 1) != 0) {
                return door;
            }
        }
        return NONE;
    }

    private static int greatestOf(int doors) {
        for (int door = DOORS - 1; door >= 0; door--) {
            if ((doors >> door & 1) != 0) {
                return door;
            }
        }
        return NONE;
    }

    /** One step over a row of pebbles, which is the maze's own or a copy of it. */
    private void goOneStep(Walker w, Maze m, int[] pebbles) {
        sight.look(w, m, pebbles);
        int lie = itemAt(pebbles, w.room);
        if (lie > 0 && saying(TAKE) != 0) {
            lie--;
            w.bag++;
        } else if (w.bag > 0 && lie < MOST_PEBBLES && saying(PUT) != 0) {
            lie++;
            w.bag--;
        }
        setItem(pebbles, w.room, lie);
        sight.look(w, m, pebbles);
        int door = wants(w, m.leading(w.room), lie > 0, saying(GO));
        int to = m.target(w.room, door);
        if (to != NONE) {
            w.goThrough(door, to / 10, to % 10);
        }
    }

    private int stepsTillSeenAgain(Walker w, Maze m) {
        ghost.become(w);
        copyRow(m.pebbles, ghostPebbles);
        trail.note(0, ghost, ghostPebbles);
        for (int k = 1; k <= FAR; k++) {
            goOneStep(ghost, m, ghostPebbles);
            trail.note(k, ghost, ghostPebbles);
            if (trail.elderLike(k) != NONE) {
                return k;
            }
        }
        return NONE;
    }

    // ---- rooms and sums

    private int leastAlike(Maze m, int room) {
        for (int other = 0; other < room; other++) {
            parting.seek(m, room, m, other);
            if (parting.goings == NONE) {
                return other;
            }
        }
        return room;
    }

    private int countParts(Maze m) {
        int parts = 0;
        for (int room = 0; room < m.rooms; room++) {
            if (leastAlike(m, room) == room) {
                parts++;
            }
        }
        return parts;
    }

    /** The place of a told walk at which it cannot have gone on from a first room. */
    private static int barOf(Maze m, Sheet s, int first) {
        int room = first;
        for (int place = 0; place + 1 < s.size; place += 2) {
            int to = m.target(room, itemAt(s.items, place));
            if (to == NONE) {
                return place;
            }
            if (to % 10 != itemAt(s.items, place + 1)) {
                return place + 1;
            }
            room = to / 10;
        }
        return NONE;
    }

    private int sumOfLying() {
        int sum = 0;
        for (int k = 0; k < mazeCount; k++) {
            for (int room = 0; room < ROOMS; room++) {
                sum += mazes[k].pebbles[room];
            }
        }
        return sum;
    }

    private int sumOfBags() {
        int sum = 0;
        for (int k = 0; k < walkerCount; k++) {
            sum += walkers[k].bag;
        }
        return sum;
    }

    // ---- the classes inside

    private static final class Maze {
        private static final int PART_SIZE = 6;
        int rooms;
        /** Where each door leads, four doors a room: 10 times the room, and the door there; or NONE. */
        final int[] targets = new int[ROOMS * DOORS];
        /** For each room the doors that lead on, as bits. */
        final int[] leadOn = new int[ROOMS];
        final int[] pebbles = new int[ROOMS];

        boolean hasRoom(int room) {
            return room >= 0 && room < rooms;
        }

        int target(int room, int door) {
            return isInside(door, DOORS) ? itemAt(targets, room * DOORS + door) : NONE;
        }

        int leading(int room) {
            return hasRoom(room) ? itemAt(leadOn, room) : 0;
        }

        /** Reads itself from a tape: the place of the first fault, or NONE. */
        int read(byte[] tape, int size) {
            int last = byteAt(tape, size, 0) - 'a';
            if (!isInside(last, ROOMS)) {
                return 0;
            }
            clear(last + 1);
            for (int place = 1; place < size; place += PART_SIZE) {
                int fault = readPart(tape, size, place);
                if (fault != NONE) {
                    return fault;
                }
            }
            return NONE;
        }

        private int readPart(byte[] tape, int size, int place) {
            int room = byteAt(tape, size, place + 1) - 'a';
            int door = byteAt(tape, size, place + 2) - '0';
            int sign = byteAt(tape, size, place + 3);
            int otherRoom = byteAt(tape, size, place + 4) - 'a';
            int otherDoor = byteAt(tape, size, place + 5) - '0';
            if (byteAt(tape, size, place) != ';') {
                return place;
            }
            if (!hasRoom(room)) {
                return place + 1;
            }
            if (!isInside(door, DOORS) || target(room, door) != NONE) {
                return place + 2;
            }
            if (sign != '-' && sign != '>') {
                return place + 3;
            }
            if (!hasRoom(otherRoom)) {
                return place + 4;
            }
            if (!isInside(otherDoor, DOORS) || sign == '-' && target(otherRoom, otherDoor) != NONE) {
                return place + 5;
            }
            lead(room, door, otherRoom, otherDoor);
            if (sign == '-') {
                lead(otherRoom, otherDoor, room, door);
            }
            return NONE;
        }

        private void clear(int n) {
            rooms = n;
            for (int k = 0; k < ROOMS * DOORS; k++) {
                targets[k] = NONE;
            }
            for (int room = 0; room < ROOMS; room++) {
                leadOn[room] = 0;
            }
        }

        private void lead(int room, int door, int otherRoom, int otherDoor) {
            setItem(targets, room * DOORS + door, 10 * otherRoom + otherDoor);
            setItem(leadOn, room, itemAt(leadOn, room) | 1 << door);
        }

        /** Behind the end stands what no part takes, so that a fault there has the tape's size as its place. */
        private static int byteAt(byte[] tape, int size, int place) {
            return place >= 0 && place < size && place < tape.length ? tape[place] : NONE;
        }
    }

    private static final class Walker {
        int kind;
        int maze;
        int room;
        int came;
        int number;
        int bag;
        int steps;
        /** For each room the doors by which it went on from there, as bits. */
        final int[] gone = new int[ROOMS];

        void become(Walker other) {
            kind = other.kind;
            maze = other.maze;
            room = other.room;
            came = other.came;
            number = other.number;
            bag = other.bag;
            steps = other.steps;
            copyRow(other.gone, gone);
        }

        int goneFromHere() {
            return itemAt(gone, room);
        }

        void goThrough(int door, int nextRoom, int nextCame) {
            setItem(gone, room, goneFromHere() | 1 << door);
            room = nextRoom;
            came = nextCame;
            steps++;
        }
    }

    /** What the names of a text stand for, and the room in which it is reckoned. */
    private static final class Sight {
        final int[] names = new int[NAMES];
        /** Five signs may wait at each of six levels; the rest is room to spare. */
        final int[] stack = new int[64];
        /** True in a ring alone, where the steps gone must not part what is otherwise as it was. */
        boolean withoutSteps;

        void look(Walker w, Maze m, int[] pebbles) {
            names[CAME] = w.came;
            names[LEADING] = Integer.bitCount(m.leading(w.room));
            names[LYING] = itemAt(pebbles, w.room);
            names[BAG] = w.bag;
            names[STEPS] = withoutSteps ? 0 : w.steps;
            names[NUMBER] = w.number;
        }
    }

    /** A text that was read: numbers, names and signs, each sign behind what it joins. */
    private static final class Rule {
        static final int NAME = -10;
        static final int OR = -20, AND = -21, NOT = -22, LESS = -23, SAME = -24;
        static final int PLUS = -25, MINUS = -26, TIMES = -27, NEGATE = -28;
        final int[] code = new int[TAPE_SIZE];
        final int[] ends = new int[SAYINGS];
        int size;

        void add(int item) {
            if (size >= 0 && size < code.length) {
                code[size] = item;
                size++;
            }
        }

        void end(int key) {
            setItem(ends, key, size);
        }

        void become(Rule other) {
            size = other.size;
            copyRow(other.code, code);
            copyRow(other.ends, ends);
        }

        int comesTo(int key, int[] names, int[] stack) {
            int begin = key > 0 ? itemAt(ends, key - 1) : 0;
            int end = Math.min(itemAt(ends, key), code.length);
            int top = 0;
            for (int k = Math.max(begin, 0); k < end; k++) {
                int item = code[k];
                if (item > OR) {
                    setItem(stack, top, item >= 0 ? item : itemAt(names, NAME - item));
                    top++;
                } else if (item == NOT || item == NEGATE) {
                    int v = itemAt(stack, top - 1);
                    setItem(stack, top - 1, item == NEGATE ? -v : truth(v == 0));
                } else {
                    top--;
                    setItem(stack, top - 1, joined(item, itemAt(stack, top - 1), itemAt(stack, top)));
                }
            }
            return itemAt(stack, 0);
        }

        private static int joined(int sign, int a, int b) {
            switch (sign) {
                case OR: return truth(a != 0 || b != 0);
                case AND: return truth(a != 0 && b != 0);
                case LESS: return truth(a < b);
                case SAME: return truth(a == b);
                case PLUS: return a + b;
                case MINUS: return a - b;
                default: return a * b;
            }
        }

        private static int truth(boolean is) {
            return is ? 1 : 0;
        }
    }

    /** The tape, and the reading of a text from it: first its tokens, then what they say. */
    private static final class Tape {
        /** A sign is its own byte as a token; a number is NUMERAL and more. */
        private static final int END = 0, WRONG = 1, WORD = 10, NUMERAL = 1000;
        private static final int WORD_GO = 16, WORD_OR = 19, WORD_AND = 20, WORD_NOT = 21, WORDS = 12;
        private static final int MOST_DIGITS = 4, MOST_OPEN = 5;
        final byte[] bytes = new byte[TAPE_SIZE];
        int size;
        final int[] tokens = new int[TAPE_SIZE + 1];
        final int[] places = new int[TAPE_SIZE + 1];
        final Rule made = new Rule();
        int at;
        int token;
        int fault;

        void append(byte b) {
            if (size >= 0 && size < TAPE_SIZE) {
                bytes[size] = b;
                size++;
            }
        }

        /** The place of the first fault, or NONE: then the text is in made. */
        int readText() {
            scan();
            at = 0;
            token = tokens[0];
            fault = NONE;
            made.size = 0;
            for (int key = GO; key < SAYINGS; key++) {
                expect(WORD_GO + key);
                readOr(0);
                expect(';');
                made.end(key);
            }
            if (token != END) {
                refuse();
            }
            return fault;
        }

        /** Each token takes a byte at least, so that the rows hold them all, and the end. */
        private void scan() {
            int place = 0;
            for (int k = 0; k <= TAPE_SIZE; k++) {
                while (place < size && isBlank(byteAt(place))) {
                    place++;
                }
                int end = endOf(place);
                places[k] = place;
                tokens[k] = tokenOf(place, end);
                if (tokens[k] == END || tokens[k] == WRONG) {
                    return;
                }
                place = end;
            }
        }

        private int endOf(int place) {
            boolean word = isLetter(byteAt(place));
            boolean numeral = isDigit(byteAt(place));
            int end = place + 1;
            while (end < size && (word && isLetter(byteAt(end)) || numeral && isDigit(byteAt(end)))) {
                end++;
            }
            return end;
        }

        private int tokenOf(int place, int end) {
            int b = byteAt(place);
            if (place >= size) {
                return END;
            }
            if (isLetter(b)) {
                return wordOf(place, end);
            }
            if (isDigit(b)) {
                return numeralOf(place, end);
            }
            return isSign(b) ? b : WRONG;
        }

        private int wordOf(int place, int end) {
            for (int k = 0; k < WORDS; k++) {
                String word = wordAt(k);
                boolean same = word.length() == end - place;
                for (int i = 0; i < word.length() && same; i++) {
                    same = word.charAt(i) == byteAt(place + i);
                }
                if (same) {
                    return WORD + k;
                }
            }
            return WRONG;
        }

        private int numeralOf(int place, int end) {
            if (end - place > MOST_DIGITS) {
                return WRONG;
            }
            int v = 0;
            for (int i = place; i < end; i++) {
                v = 10 * v + byteAt(i) - '0';
            }
            return NUMERAL + v;
        }

        private void advance() {
            at++;
            token = itemAt(tokens, at);
        }

        /** The first fault stays; behind it no token fits, so that all that is open ends. */
        private void refuse() {
            if (fault == NONE) {
                fault = itemAt(places, at);
            }
            token = WRONG;
        }

        private void expect(int wanted) {
            if (token == wanted) {
                advance();
            } else {
                refuse();
            }
        }

        private boolean mayOpen(int open) {
            if (open >= MOST_OPEN) {
                refuse();
                return false;
            }
            advance();
            return true;
        }

        private void readOr(int open) {
            readAnd(open);
            for (int k = 0; k < TAPE_SIZE && token == WORD_OR; k++) {
                advance();
                readAnd(open);
                made.add(Rule.OR);
            }
        }

        private void readAnd(int open) {
            readNot(open);
            for (int k = 0; k < TAPE_SIZE && token == WORD_AND; k++) {
                advance();
                readNot(open);
                made.add(Rule.AND);
            }
        }

        private void readNot(int open) {
            if (token == WORD_NOT) {
                if (mayOpen(open)) {
                    readNot(open + 1);
                    made.add(Rule.NOT);
                }
                return;
            }
            readSum(open);
            if (token == '<' || token == '=') {
                int sign = token == '<' ? Rule.LESS : Rule.SAME;
                advance();
                readSum(open);
                made.add(sign);
            }
        }

        private void readSum(int open) {
            readTerm(open);
            for (int k = 0; k < TAPE_SIZE && (token == '+' || token == '-'); k++) {
                int sign = token == '+' ? Rule.PLUS : Rule.MINUS;
                advance();
                readTerm(open);
                made.add(sign);
            }
        }

        private void readTerm(int open) {
            readOne(open);
            for (int k = 0; k < TAPE_SIZE && token == '*'; k++) {
                advance();
                readOne(open);
                made.add(Rule.TIMES);
            }
        }

        private void readOne(int open) {
            if (token >= NUMERAL) {
                made.add(token - NUMERAL);
                advance();
            } else if (token >= WORD && token < WORD_GO) {
                made.add(Rule.NAME - (token - WORD));
                advance();
            } else if (token == '-') {
                if (mayOpen(open)) {
                    readOne(open + 1);
                    made.add(Rule.NEGATE);
                }
            } else if (token == '(') {
                if (mayOpen(open)) {
                    readOr(open + 1);
                    expect(')');
                }
            } else {
                refuse();
            }
        }

        private int byteAt(int place) {
            return place >= 0 && place < TAPE_SIZE ? bytes[place] : NONE;
        }

        /** The names stand in the order of Sight, then go, put, take in that of the sayings. */
        private static String wordAt(int k) {
            switch (k) {
                case 0: return "came";
                case 1: return "doors";
                case 2: return "pebbles";
                case 3: return "bag";
                case 4: return "step";
                case 5: return "number";
                case 6: return "go";
                case 7: return "put";
                case 8: return "take";
                case 9: return "or";
                case 10: return "and";
                default: return "not";
            }
        }

        private static boolean isBlank(int b) {
            return b == 32 || b == 10;
        }

        private static boolean isLetter(int b) {
            return b >= 'a' && b <= 'z';
        }

        private static boolean isDigit(int b) {
            return b >= '0' && b <= '9';
        }

        private static boolean isSign(int b) {
            return b == '(' || b == ')' || b == ';' || b == '+' || b == '-' || b == '*' || b == '<' || b == '=';
        }
    }

    /** What a walker's ring compares, packed, for each step from the first on. */
    private static final class Trail {
        final long[] pebblesBut = new long[FAR + 1];
        final long[] others = new long[FAR + 1];
        final int[] bags = new int[FAR + 1];

        void note(int k, Walker w, int[] pebbles) {
            if (k < 0 || k > FAR) {
                return;
            }
            long lying = 0;
            long other = itemAt(pebbles, ROOMS - 1);
            for (int room = 0; room < ROOMS; room++) {
                if (room < ROOMS - 1) {
                    lying = lying << 7 | itemAt(pebbles, room);
                }
                other = other << 4 | itemAt(w.gone, room);
            }
            pebblesBut[k] = lying;
            others[k] = (other << 4 | w.room) << 2 | w.came;
            bags[k] = w.bag;
        }

        /** The first noted state that is as the k-th, ahead of it; or NONE. */
        int elderLike(int k) {
            for (int i = 0; i < k && k <= FAR; i++) {
                if (pebblesBut[i] == pebblesBut[k] && others[i] == others[k] && bags[i] == bags[k]) {
                    return i;
                }
            }
            return NONE;
        }
    }

    /** The least goings on from one room to each. */
    private static final class Spread {
        final int[] goings = new int[ROOMS];
        final int[] queue = new int[ROOMS];

        /** How many rooms are come to, the first with them. */
        int from(Maze m, int first) {
            for (int room = 0; room < ROOMS; room++) {
                goings[room] = NONE;
            }
            setItem(goings, first, 0);
            queue[0] = first;
            int tail = 1;
            for (int head = 0; head < tail && head < ROOMS; head++) {
                int room = queue[head];
                for (int door = 0; door < DOORS; door++) {
                    int to = m.target(room, door);
                    if (to != NONE && itemAt(goings, to / 10) == NONE) {
                        setItem(goings, to / 10, itemAt(goings, room) + 1);
                        setItem(queue, tail, to / 10);
                        tail++;
                    }
                }
            }
            return tail;
        }
    }

    /** The least walk by the same doors that parts two rooms, and the first of such walks. */
    private static final class Parting {
        private static final int PAIRS = ROOMS * ROOMS, MOST_TOLD = 8;
        final int[] queue = new int[PAIRS];
        final int[] goingsTo = new int[PAIRS];
        final int[] walkTo = new int[PAIRS];
        final boolean[] met = new boolean[PAIRS];
        int tail;
        int goings;
        int walk;

        /** Leaves goings and walk; both are NONE, if no walk parts the rooms. */
        void seek(Maze m, int room, Maze n, int other) {
            for (int k = 0; k < PAIRS; k++) {
                met[k] = false;
            }
            tail = 0;
            if (m.leading(room) != n.leading(other)) {
                goings = 0;
                walk = 0;
                return;
            }
            add(room * ROOMS + other, 0, 0);
            for (int head = 0; head < tail && head < PAIRS; head++) {
                if (goOn(m, n, head)) {
                    return;
                }
            }
            goings = NONE;
            walk = NONE;
        }

        /** Doors in order behind pairs in order: of like walks the first comes first. */
        private boolean goOn(Maze m, Maze n, int head) {
            if (!isInside(head, PAIRS)) {
                return false;
            }
            int room = queue[head] / ROOMS;
            int other = queue[head] % ROOMS;
            int far = goingsTo[head] + 1;
            for (int door = 0; door < DOORS; door++) {
                int to = m.target(room, door);
                int otherTo = n.target(other, door);
                if (to == NONE || otherTo == NONE) {
                    continue;
                }
                int digits = far <= MOST_TOLD ? 10 * walkTo[head] + door + 1 : walkTo[head];
                if (to % 10 != otherTo % 10 || m.leading(to / 10) != n.leading(otherTo / 10)) {
                    goings = far;
                    walk = digits;
                    return true;
                }
                add(to / 10 * ROOMS + otherTo / 10, far, digits);
            }
            return false;
        }

        private void add(int pair, int far, int digits) {
            if (!isInside(pair, PAIRS) || met[pair] || !isInside(tail, PAIRS)) {
                return;
            }
            met[pair] = true;
            queue[tail] = pair;
            goingsTo[tail] = far;
            walkTo[tail] = digits;
            tail++;
        }
    }

    /** The least goings on till each room was there. */
    private static final class Tour {
        /** The first room has been there always: 512 sets for it, 256 for each of nine others. */
        private static final int STATES = 512 + 9 * 256;
        /** A state is goings, rooms that were there (bits), the room. */
        private static final int ROOM_BITS = 4, SET_BITS = 10;
        final int[] queue = new int[STATES];
        /** For each set of rooms that were there: in which rooms one has stood with it (bits). */
        final int[] stood = new int[1 << SET_BITS];
        int tail;

        int least(Maze m, int first) {
            int whole = (1 << m.rooms) - 1;
            for (int k = 0; k <= whole && k < stood.length; k++) {
                stood[k] = 0;
            }
            tail = 0;
            add(0, 1 << first, first);
            for (int head = 0; head < tail && head < STATES; head++) {
                int room = queue[head] & (1 << ROOM_BITS) - 1;
                int set = queue[head] >> ROOM_BITS & (1 << SET_BITS) - 1;
                int goings = queue[head] >> ROOM_BITS + SET_BITS;
                if (set == whole) {
                    return goings;
                }
                for (int door = 0; door < DOORS; door++) {
                    int to = m.target(room, door);
                    if (to != NONE) {
                        add(goings + 1, set | 1 << to / 10, to / 10);
                    }
                }
            }
            return NONE;
        }

        private void add(int goings, int set, int room) {
            if (!isInside(set, stood.length) || (stood[set] >> room & 1) != 0 || !isInside(tail, STATES)) {
                return;
            }
            stood[set] |= 1 << room;
            queue[tail] = (goings << SET_BITS | set) << ROOM_BITS | room;
            tail++;
        }
    }

    private static final class Sheet {
        /** NONE, if the sheet is missing. */
        int sort = NONE;
        int size;
        final int[] items = new int[SHEET_SIZE];

        boolean isMissing() {
            return sort == NONE;
        }

        void clear(int newSort, int newSize) {
            sort = newSort;
            size = newSize;
            for (int k = 0; k < SHEET_SIZE; k++) {
                items[k] = 0;
            }
        }

        int narrowed(int v) {
            if (sort == 0) {
                return (byte) v;
            }
            return sort == 1 ? (short) v : v;
        }

        /** Written so that no sum can wrap. */
        boolean hasItems(int from, int n) {
            return from >= 0 && n >= 0 && n <= size && from <= size - n;
        }

        boolean isWalk() {
            for (int k = 0; k < size; k++) {
                if (!isInside(itemAt(items, k), DOORS)) {
                    return false;
                }
            }
            return size % 2 == 0;
        }
    }

    private static final class Image {
        boolean isKept;
        int mazes;
        int walkers;
        int rule;
        final int[][] pebbles = new int[MAZES][ROOMS];
        final Walker[] states = new Walker[WALKERS];

        Image() {
            for (int k = 0; k < WALKERS; k++) {
                states[k] = new Walker();
            }
        }
    }
}
