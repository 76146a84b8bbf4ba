import java.util.ArrayDeque;
import java.util.ArrayList;
import java.util.Arrays;
import java.util.Deque;
import java.util.HashMap;
import java.util.List;
import java.util.Map;

/** A second writing of the document, by other ways than the class and with the Java library. */
final class Model {
    static final int NONE = -1, BAD = -2, STATE = -3, FULL = -4;
    static final int FAR_AWAY = 1000000;

    static final class Maze {
        int rooms;
        final Map<String, String> doors = new HashMap<>();
        int[] pebbles = new int[10];

        String to(int room, int door) {
            return doors.get("" + (char) ('a' + room) + door);
        }

        int roomTo(int room, int door) {
            return to(room, door).charAt(0) - 'a';
        }

        int doorTo(int room, int door) {
            return to(room, door).charAt(1) - '0';
        }

        List<Integer> leading(int room) {
            List<Integer> found = new ArrayList<>();
            for (int door = 0; door < 4; door++) {
                if (to(room, door) != null) {
                    found.add(door);
                }
            }
            return found;
        }
    }

    static final class Walker {
        int kind, maze, room, came, number, bag, steps;
        List<List<Integer>> gone = new ArrayList<>();

        Walker copy() {
            Walker w = new Walker();
            w.kind = kind;
            w.maze = maze;
            w.room = room;
            w.came = came;
            w.number = number;
            w.bag = bag;
            w.steps = steps;
            for (List<Integer> g : gone) {
                w.gone.add(new ArrayList<>(g));
            }
            return w;
        }
    }

    static final class Text {
        final List<List<String>> parts = new ArrayList<>();
    }

    /** Tokens with their places; a token that can be none is "?", the end is "". */
    static final class Tokens {
        final List<String> words = new ArrayList<>();
        final List<Integer> places = new ArrayList<>();

        Tokens(String s) {
            int i = 0;
            while (i < s.length()) {
                char c = s.charAt(i);
                if (c == ' ' || c == '\n') {
                    i++;
                    continue;
                }
                int end = i + 1;
                String kind = c >= 'a' && c <= 'z' ? "[a-z]+" : c >= '0' && c <= '9' ? "[0-9]+" : null;
                while (kind != null && end < s.length() && s.substring(i, end + 1).matches(kind)) {
                    end++;
                }
                String word = s.substring(i, end);
                boolean good = word.matches("[0-9]{1,4}|[();+*<=-]|came|doors|pebbles|bag|step|number|go|put|take|or|and|not");
                words.add(good ? word : "?");
                places.add(i);
                i = end;
            }
            words.add("");
            places.add(s.length());
        }
    }

    final List<Maze> mazes = new ArrayList<>();
    final List<Walker> walkers = new ArrayList<>();
    final List<Text> texts = new ArrayList<>();
    int rule = 0;
    String tape = "";
    final long[][] sheets = new long[4][];
    final int[] sorts = {-1, -1, -1, -1};
    List<int[]> keptPebbles;
    List<Walker> keptWalkers;
    int keptRule;

    Model() {
        tape = "go 1 ; put pebbles = 0 ; take 0 ;";
        text();
    }

    // ---- texts, mazes

    int feed(int n, long bytes) {
        if (n < 1 || n > 8) {
            return BAD;
        }
        if (tape.length() + n > 160) {
            return FULL;
        }
        for (int k = 0; k < n; k++) {
            tape += (char) (bytes >>> 8 * k & 255);
        }
        return tape.length();
    }

    int maze() {
        if (mazes.size() == 4) {
            return FULL;
        }
        String s = tape;
        tape = "";
        Maze m = new Maze();
        if (s.isEmpty() || s.charAt(0) < 'a' || s.charAt(0) > 'j') {
            return -100;
        }
        m.rooms = s.charAt(0) - 'a' + 1;
        String room = "[a-" + s.charAt(0) + "]";
        String[] forms = {";", room, "[0-3]", "[->]", room, "[0-3]"};
        String one = "", other = "", sign = "";
        int k = 0;
        for (int i = 1; i < s.length(); i++, k = (k + 1) % 6) {
            String b = s.substring(i, i + 1);
            if (!b.matches(forms[k])) {
                return -100 - i;
            }
            if (k == 1 || k == 2) {
                one = k == 1 ? b : one + b;
            }
            if (k == 2 && m.doors.containsKey(one)) {
                return -100 - i;
            }
            sign = k == 3 ? b : sign;
            if (k == 4 || k == 5) {
                other = k == 4 ? b : other + b;
            }
            if (k == 5) {
                if (sign.equals("-") && m.doors.containsKey(other)) {
                    return -100 - i;
                }
                m.doors.put(one, other);
                if (sign.equals("-")) {
                    m.doors.put(other, one);
                }
            }
        }
        if (k != 0) {
            return -100 - s.length();
        }
        mazes.add(m);
        return mazes.size() - 1;
    }

    int text() {
        if (texts.size() == 6) {
            return FULL;
        }
        Tokens t = new Tokens(tape);
        tape = "";
        int bad = firstBad(t.words);
        if (bad >= 0) {
            return -100 - t.places.get(bad);
        }
        Text text = new Text();
        List<String> part = new ArrayList<>();
        for (String word : t.words) {
            if (word.equals(";")) {
                text.parts.add(new ArrayList<>(part.subList(1, part.size())));
                part.clear();
            } else {
                part.add(word);
            }
        }
        texts.add(text);
        return texts.size() - 1;
    }

    /** A machine with a stack of what is open: ( with a C, if behind a comparison; n for not; - for a sign. */
    private static int firstBad(List<String> words) {
        String[] keys = {"go", "put", "take", ""};
        int key = 0;
        Deque<String> open = new ArrayDeque<>();
        boolean compared = false;
        String wants = "key";
        for (int i = 0; i < words.size(); i++) {
            String w = words.get(i);
            if (wants.equals("key")) {
                if (!w.equals(keys[key])) {
                    return i;
                }
                wants = "not";
                key++;
                continue;
            }
            if (!wants.equals("sign")) {
                if (w.matches("[0-9]+|came|doors|pebbles|bag|step|number")) {
                    dropAll(open, "-");
                    wants = "sign";
                } else if (w.equals("(") || w.equals("-") || w.equals("not") && wants.equals("not")) {
                    if (open.size() == 5) {
                        return i;
                    }
                    open.push(w.equals("(") ? compared ? "(C" : "(" : w.equals("-") ? "-" : "n");
                    compared = w.equals("(") ? false : compared;
                    wants = w.equals("-") ? "one" : "not";
                } else {
                    return i;
                }
                continue;
            }
            switch (w) {
                case "*": case "+": case "-":
                    wants = "one";
                    break;
                case "<": case "=":
                    if (compared) {
                        return i;
                    }
                    compared = true;
                    wants = "one";
                    break;
                case "and": case "or":
                    dropAll(open, "n");
                    compared = false;
                    wants = "not";
                    break;
                case ")":
                    dropAll(open, "n");
                    if (open.isEmpty()) {
                        return i;
                    }
                    compared = open.pop().equals("(C");
                    dropAll(open, "-");
                    break;
                case ";":
                    dropAll(open, "n");
                    if (!open.isEmpty()) {
                        return i;
                    }
                    compared = false;
                    wants = "key";
                    break;
                default:
                    return i;
            }
        }
        return -1;
    }

    private static void dropAll(Deque<String> open, String what) {
        while (!open.isEmpty() && open.peek().equals(what)) {
            open.pop();
        }
    }

    /** Splits at the last sign that binds the least, outside of ( ). */
    static int value(List<String> e, Map<String, Integer> names) {
        for (String signs : new String[] {"or", "and"}) {
            int at = lastOutside(e, signs);
            if (at >= 0) {
                boolean a = value(e.subList(0, at), names) != 0;
                boolean b = value(e.subList(at + 1, e.size()), names) != 0;
                return (signs.equals("or") ? a || b : a && b) ? 1 : 0;
            }
        }
        if (e.get(0).equals("not")) {
            return value(e.subList(1, e.size()), names) == 0 ? 1 : 0;
        }
        for (String signs : new String[] {"< =", "+ -", "*"}) {
            int at = lastOutside(e, signs);
            if (at >= 0) {
                int a = value(e.subList(0, at), names);
                int b = value(e.subList(at + 1, e.size()), names);
                switch (e.get(at)) {
                    case "<": return a < b ? 1 : 0;
                    case "=": return a == b ? 1 : 0;
                    case "+": return a + b;
                    case "-": return a - b;
                    default: return a * b;
                }
            }
        }
        if (e.get(0).equals("-")) {
            return -value(e.subList(1, e.size()), names);
        }
        if (e.get(0).equals("(")) {
            return value(e.subList(1, e.size() - 1), names);
        }
        return names.containsKey(e.get(0)) ? names.get(e.get(0)) : Integer.parseInt(e.get(0));
    }

    private static int lastOutside(List<String> e, String signs) {
        int depth = 0;
        for (int i = e.size() - 1; i > 0; i--) {
            depth += e.get(i).equals(")") ? 1 : e.get(i).equals("(") ? -1 : 0;
            boolean joins = e.get(i - 1).matches("[0-9a-z)]+") && !e.get(i - 1).matches("or|and|not");
            if (depth == 0 && joins && Arrays.asList(signs.split(" ")).contains(e.get(i))) {
                return i;
            }
        }
        return -1;
    }

    int force(int text) {
        if (text < 0 || text >= texts.size()) {
            return BAD;
        }
        int was = rule;
        rule = text;
        return was;
    }

    private Maze mazeOf(int maze) {
        return maze >= 0 && maze < mazes.size() ? mazes.get(maze) : null;
    }

    private boolean isRoom(int maze, int room) {
        return mazeOf(maze) != null && room >= 0 && room < mazes.get(maze).rooms;
    }

    private boolean isSpot(int spot) {
        return spot >= 0 && isRoom(spot / 10, spot % 10);
    }

    int leads(int maze, int room, int door) {
        if (room == NONE && mazeOf(maze) != null) {
            return mazes.get(maze).rooms;
        }
        if (!isRoom(maze, room) || door < 0 || door > 3) {
            return BAD;
        }
        Maze m = mazes.get(maze);
        return m.to(room, door) == null ? NONE : 10 * m.roomTo(room, door) + m.doorTo(room, door);
    }

    int pebbles(int maze, int room, int n) {
        if (!isRoom(maze, room) || n < 0 || n > 99) {
            return BAD;
        }
        int was = mazes.get(maze).pebbles[room];
        mazes.get(maze).pebbles[room] = n;
        return was;
    }

    // ---- walkers

    int walker(int kind, int where, int has) {
        if (kind < 0 || kind > 5 || !isSpot(where) || has < 0 || has / 100 > 9 || has % 100 > 11) {
            return BAD;
        }
        if (walkers.size() == 8) {
            return FULL;
        }
        Walker w = new Walker();
        w.kind = kind;
        w.maze = where / 10;
        w.room = where % 10;
        w.number = has / 100;
        w.bag = has % 100;
        for (int k = 0; k < 10; k++) {
            w.gone.add(new ArrayList<>());
        }
        walkers.add(w);
        return walkers.size() - 1;
    }

    private Walker walkerOf(int walker) {
        return walker >= 0 && walker < walkers.size() ? walkers.get(walker) : null;
    }

    private int says(Walker w, int[] pebbles, int key, boolean stepless) {
        Map<String, Integer> names = new HashMap<>();
        names.put("came", w.came);
        names.put("doors", mazes.get(w.maze).leading(w.room).size());
        names.put("pebbles", pebbles[w.room]);
        names.put("bag", w.bag);
        names.put("step", stepless ? 0 : w.steps);
        names.put("number", w.number);
        return value(texts.get(rule).parts.get(key), names);
    }

    private int wants(Walker w, int[] pebbles, boolean stepless) {
        List<Integer> on = mazes.get(w.maze).leading(w.room);
        if (on.isEmpty()) {
            return NONE;
        }
        boolean lie = pebbles[w.room] > 0;
        boolean isHand = w.kind == 1 || w.kind == 3;
        boolean draws = w.kind == 2 || w.kind == 4 || w.kind == 5;
        if (w.kind == 4 && lie && on.contains(w.came)) {
            return w.came;
        }
        if (draws) {
            List<Integer> fresh = new ArrayList<>(on);
            fresh.removeAll(w.gone.get(w.room));
            if (!fresh.isEmpty()) {
                return w.kind == 5 ? fresh.get(fresh.size() - 1) : fresh.get(0);
            }
        }
        long turn = isHand ? 1 : says(w, pebbles, 0, stepless);
        turn = w.kind == 3 && lie ? w.number : turn;
        int door = (int) Math.floorMod(w.came + turn, 4L);
        while (!on.contains(door)) {
            door = door == 3 ? 0 : door + 1;
        }
        return door;
    }

    private void oneStep(Walker w, int[] pebbles, boolean stepless) {
        boolean takes = says(w, pebbles, 2, stepless) != 0 && pebbles[w.room] > 0;
        boolean puts = !takes && says(w, pebbles, 1, stepless) != 0 && w.bag > 0 && pebbles[w.room] < 99;
        int moved = takes ? 1 : puts ? -1 : 0;
        w.bag += moved;
        pebbles[w.room] -= moved;
        int door = wants(w, pebbles, stepless);
        if (door == NONE) {
            return;
        }
        Maze m = mazes.get(w.maze);
        int room = w.room;
        if (!w.gone.get(room).contains(door)) {
            w.gone.get(room).add(door);
        }
        w.room = m.roomTo(room, door);
        w.came = m.doorTo(room, door);
        w.steps++;
    }

    int told(int walker, int what) {
        Walker w = walkerOf(walker);
        if (w == null || what < 0 || what > 8) {
            return -5;
        }
        int bits = 0;
        for (int door : w.gone.get(w.room)) {
            bits += 1 << door;
        }
        return new int[] {w.kind, w.maze, w.room, w.came, w.number, w.bag, w.steps,
            wants(w, mazes.get(w.maze).pebbles, false), bits}[what];
    }

    int says(int walker, int key) {
        Walker w = walkerOf(walker);
        return w == null || key < 0 || key > 2 ? -1000000 : says(w, mazes.get(w.maze).pebbles, key, false);
    }

    int step(int walker, int n) {
        Walker w = walkerOf(walker);
        if (w == null || n < 1 || n > 100) {
            return BAD;
        }
        for (int k = 0; k < n; k++) {
            oneStep(w, mazes.get(w.maze).pebbles, false);
        }
        return w.room;
    }

    int run(int walker, int n, int what) {
        Walker w = walkerOf(walker);
        if (w == null || n < 0 || n > 200 || what < 0 || what > 2) {
            return BAD;
        }
        w = w.copy();
        int[] pebbles = mazes.get(w.maze).pebbles.clone();
        for (int k = 0; k < n; k++) {
            oneStep(w, pebbles, false);
        }
        return what == 0 ? w.room : what == 1 ? w.bag : w.steps;
    }

    int ring(int walker, int what) {
        Walker w = walkerOf(walker);
        if (w == null || what < 0 || what > 1) {
            return BAD;
        }
        w = w.copy();
        int[] pebbles = mazes.get(w.maze).pebbles.clone();
        List<String> seen = new ArrayList<>();
        for (int k = 0; k <= 200; k++) {
            List<String> gone = new ArrayList<>();
            for (List<Integer> g : w.gone) {
                List<Integer> sorted = new ArrayList<>(g);
                sorted.sort(null);
                gone.add(sorted.toString());
            }
            String now = w.room + " " + w.came + " " + w.bag + " " + Arrays.toString(pebbles) + gone;
            if (seen.contains(now)) {
                int first = seen.indexOf(now);
                return what == 0 ? first : k - first;
            }
            seen.add(now);
            oneStep(w, pebbles, true);
        }
        return NONE;
    }

    int meet(int a, int b) {
        Walker one = walkerOf(Math.min(a, b)), other = walkerOf(Math.max(a, b));
        if (one == null || other == null || a == b || one.maze != other.maze) {
            return BAD;
        }
        Walker[] two = {one.copy(), other.copy()};
        int[] pebbles = mazes.get(one.maze).pebbles.clone();
        int steps = 0;
        while (two[0].room != two[1].room) {
            if (steps == 200) {
                return NONE;
            }
            oneStep(two[steps % 2], pebbles, false);
            steps++;
        }
        return steps;
    }

    // ---- what can be known

    /** Whether no walk of at most k goings on parts two rooms. */
    private boolean[][] like(Maze m, Maze n, int k) {
        boolean[][] like = new boolean[m.rooms][n.rooms];
        boolean[][] below = k == 0 ? null : like(m, n, k - 1);
        for (int r = 0; r < m.rooms; r++) {
            for (int s = 0; s < n.rooms; s++) {
                like[r][s] = m.leading(r).equals(n.leading(s));
                for (int door : like[r][s] && k > 0 ? m.leading(r) : new ArrayList<Integer>()) {
                    like[r][s] &= m.doorTo(r, door) == n.doorTo(s, door)
                        && below[m.roomTo(r, door)][n.roomTo(s, door)];
                }
            }
        }
        return like;
    }

    int alike(int maze, int room) {
        Maze m = mazeOf(maze);
        if (m == null || room != NONE && !isRoom(maze, room)) {
            return BAD;
        }
        boolean[][] like = like(m, m, 25);
        int parts = 0;
        for (int r = 0; r < m.rooms; r++) {
            int least = 0;
            while (!like[r][least]) {
                least++;
            }
            if (r == room) {
                return least;
            }
            parts += least == r ? 1 : 0;
        }
        return parts;
    }

    int tells(int one, int other, int what) {
        if (!isSpot(one) || !isSpot(other) || what < 0 || what > 1) {
            return BAD;
        }
        Maze m = mazes.get(one / 10), n = mazes.get(other / 10);
        int r = one % 10, s = other % 10;
        int k = 0;
        while (k <= 25 && like(m, n, k)[r][s]) {
            k++;
        }
        if (k > 25) {
            return NONE;
        }
        if (what == 0) {
            return k;
        }
        String walk = "";
        for (int left = k; left > 0; left--) {
            for (int door : m.leading(r)) {
                boolean comesAlike = m.doorTo(r, door) == n.doorTo(s, door);
                if (!comesAlike || !like(m, n, left - 1)[m.roomTo(r, door)][n.roomTo(s, door)]) {
                    walk += door + 1;
                    int next = m.roomTo(r, door);
                    s = n.roomTo(s, door);
                    r = next;
                    break;
                }
            }
        }
        return walk.isEmpty() ? 0 : Integer.parseInt(walk.substring(0, Math.min(8, walk.length())));
    }

    private int[][] ways(Maze m) {
        int[][] far = new int[m.rooms][m.rooms];
        for (int r = 0; r < m.rooms; r++) {
            Arrays.fill(far[r], FAR_AWAY);
            for (int door : m.leading(r)) {
                far[r][m.roomTo(r, door)] = 1;
            }
            far[r][r] = 0;
        }
        for (int by = 0; by < m.rooms; by++) {
            for (int r = 0; r < m.rooms; r++) {
                for (int s = 0; s < m.rooms; s++) {
                    far[r][s] = Math.min(far[r][s], far[r][by] + far[by][s]);
                }
            }
        }
        return far;
    }

    int way(int maze, int rooms) {
        if (rooms < 0 || !isRoom(maze, rooms / 10) || !isRoom(maze, rooms % 10)) {
            return BAD;
        }
        int far = ways(mazes.get(maze))[rooms / 10][rooms % 10];
        return far >= FAR_AWAY ? NONE : far;
    }

    int all(int maze, int room) {
        if (!isRoom(maze, room)) {
            return BAD;
        }
        int[][] far = ways(mazes.get(maze));
        int n = far.length;
        int[][] best = new int[1 << n][n];
        for (int[] row : best) {
            Arrays.fill(row, FAR_AWAY);
        }
        best[1 << room][room] = 0;
        int least = FAR_AWAY;
        for (int set = 0; set < 1 << n; set++) {
            for (int r = 0; r < n; r++) {
                for (int s = 0; s < n && best[set][r] < FAR_AWAY; s++) {
                    int more = set | 1 << s;
                    if (more != set) {
                        best[more][s] = Math.min(best[more][s], best[set][r] + far[r][s]);
                    }
                }
                least = set == (1 << n) - 1 ? Math.min(least, best[set][r]) : least;
            }
        }
        return least >= FAR_AWAY ? NONE : least;
    }

    int free(int maze) {
        if (mazeOf(maze) == null) {
            return BAD;
        }
        int bits = 0;
        int[][] far = ways(mazes.get(maze));
        for (int r = 0; r < far.length; r++) {
            bits += Arrays.stream(far[r]).allMatch(f -> f < FAR_AWAY) ? 1 << r : 0;
        }
        return bits;
    }

    int begins(int maze, int sheet, int what) {
        if (mazeOf(maze) == null || sheet < 0 || sheet > 3 || what < 0 || what > 1) {
            return BAD;
        }
        long[] walk = sheets[sheet];
        if (walk == null) {
            return -11;
        }
        if (walk.length % 2 != 0 || Arrays.stream(walk).anyMatch(v -> v < 0 || v > 3)) {
            return BAD;
        }
        Maze m = mazes.get(maze);
        Map<Integer, Integer> left = new HashMap<>();
        for (int r = 0; r < m.rooms; r++) {
            left.put(r, r);
        }
        for (int place = 0; place < walk.length; place++) {
            int door = (int) walk[place - place % 2], v = (int) walk[place];
            boolean taken = place % 2 == 0;
            left.values().removeIf(r -> taken ? m.to(r, door) == null : m.doorTo(r, door) != v);
            if (!taken) {
                left.replaceAll((first, r) -> m.roomTo(r, door));
            }
            if (left.isEmpty()) {
                return what == 0 ? 0 : place;
            }
        }
        return what == 1 ? NONE : left.keySet().stream().mapToInt(r -> 1 << r).sum();
    }

    int image() {
        keptPebbles = new ArrayList<>();
        keptWalkers = new ArrayList<>();
        keptRule = rule;
        for (Maze m : mazes) {
            keptPebbles.add(m.pebbles.clone());
        }
        for (Walker w : walkers) {
            keptWalkers.add(w.copy());
        }
        return keptWalkers.size();
    }

    int back() {
        if (keptWalkers == null) {
            return STATE;
        }
        rule = keptRule;
        for (int k = 0; k < keptPebbles.size(); k++) {
            mazes.get(k).pebbles = keptPebbles.get(k).clone();
        }
        for (int k = 0; k < keptWalkers.size(); k++) {
            walkers.set(k, keptWalkers.get(k).copy());
        }
        return walkers.size();
    }

    int count(int what) {
        switch (what) {
            case 0: return mazes.size();
            case 1: return walkers.size();
            case 2: return texts.size();
            case 3: return tape.length();
            case 4: return rule;
            case 5: return mazes.stream().mapToInt(m -> Arrays.stream(m.pebbles).sum()).sum();
            case 6: return walkers.stream().mapToInt(w -> w.bag).sum();
            default: return BAD;
        }
    }

    // ---- the host

    int sheet(int sheet, int sort, int n) {
        if (sheet < 0 || sheet > 3 || sort < -1 || sort > 2 || sort >= 0 && n > 40) {
            return BAD;
        }
        if (sort >= 0 && n < 0) {
            return -14;
        }
        sorts[sheet] = sort;
        sheets[sheet] = sort < 0 ? null : new long[n];
        return 1;
    }

    int cell(int sheet, int i, int v) {
        if (sheet < 0 || sheet > 3) {
            return BAD;
        }
        if (sheets[sheet] == null) {
            return -11;
        }
        if (i < 0 || i >= sheets[sheet].length) {
            return -12;
        }
        sheets[sheet][i] = sorts[sheet] == 0 ? (byte) v : sorts[sheet] == 1 ? (short) v : v;
        return 1;
    }

    int copy(int sheet, int i, int other, int j, int n) {
        if (sheet < 0 || sheet > 3 || other < 0 || other > 3) {
            return BAD;
        }
        if (sheets[sheet] == null || sheets[other] == null) {
            return -11;
        }
        if (sorts[sheet] != sorts[other]) {
            return -13;
        }
        if (n < 0 || i < 0 || j < 0 || (long) i + n > sheets[sheet].length || (long) j + n > sheets[other].length) {
            return -12;
        }
        long[] were = sheets[sheet].clone();
        for (int k = 0; k < n; k++) {
            sheets[other][j + k] = were[i + k];
        }
        return n;
    }

    int walkers(int sheet, int sort, int from, int n) {
        if (sheet < 0 || sheet > 3 || sort < 0 || sort > 2 || n < 0 || n > 8) {
            return BAD;
        }
        if (sheets[sheet] == null) {
            return -11;
        }
        if (sorts[sheet] != sort) {
            return -13;
        }
        int came = 0;
        for (int k = 0; k < n; k++) {
            long i = (long) from + 3 * k;
            if (i < 0 || i + 3 > sheets[sheet].length) {
                return -12;
            }
            long[] row = sheets[sheet];
            came += walker((int) row[(int) i], (int) row[(int) i + 1], (int) row[(int) i + 2]) >= 0 ? 1 : 0;
        }
        return came;
    }

    int taken(int walker, int k) {
        if (k < 0 || k > 5) {
            return BAD;
        }
        if (walkerOf(walker) == null) {
            return -11;
        }
        int kind = walkers.get(walker).kind;
        boolean fits = new String[] {"012345", "13", "245", "3", "4", "5"}[k].contains("" + kind);
        return fits ? walkers.get(walker).number : -13;
    }
}
