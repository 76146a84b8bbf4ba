import java.util.Random;

/** Random runs of calls: each answer of the class is the Model's. */
public final class ModelTest {
    private static final int RUNS = 1000, CALLS = 300;
    private static final String[] PIECES = {"came", "doors", "pebbles", "bag", "step", "number", "or", "and", "not",
        "(", ")", "+", "-", "*", "<", "=", ";", "go", "put", "take", "0", "1", "2", "3", "17", "9999", "12345", "x", "%"};

    private final Random random;
    private final ElevenPebbles x = new ElevenPebbles();
    private final Model model = new Model();
    private final StringBuilder story = new StringBuilder();

    private ModelTest(int seed) {
        random = new Random(seed);
    }

    public static void main(String[] args) {
        for (int seed = 0; seed < RUNS; seed++) {
            new ModelTest(seed).play(seed);
        }
        Check.close("ModelTest");
    }

    private void play(int seed) {
        int mazes = 1 + random.nextInt(3);
        for (int k = 0; k < mazes; k++) {
            readMaze();
        }
        int walkers = 1 + random.nextInt(5);
        for (int k = 0; k < walkers; k++) {
            int in = below(model.count(0)), where = 10 * in + room(in);
            int kind = random.nextInt(6), has = 100 * random.nextInt(10) + random.nextInt(12);
            due("walker(" + kind + ", " + where + ", " + has + ")", x.walker(kind, where, has), model.walker(kind, where, has));
        }
        for (int k = 0; k < CALLS; k++) {
            oneCall();
        }
    }

    private void due(String call, int got, int want) {
        story.append(call).append('\n');
        Check.due(got == want ? call : story.toString() + "^", got, want);
    }

    private int below(int n) {
        return n <= 0 ? 0 : random.nextInt(n);
    }

    /** Mostly a number from low to high, sometimes beside them. */
    private int any(int low, int high) {
        return random.nextInt(12) == 0 ? low - 1 - random.nextInt(2) : low + random.nextInt(high - low + 1 + (random.nextInt(8) == 0 ? 2 : 0));
    }

    /** Mostly a room of a maze. */
    private int room(int maze) {
        boolean isThere = maze >= 0 && maze < model.count(0);
        return isThere && random.nextInt(12) != 0 ? random.nextInt(model.mazes.get(maze).rooms) : any(0, 9);
    }

    private int one(int n) {
        return random.nextInt(25) == 0 ? any(0, 9) : below(n);
    }

    private void feed(String text) {
        for (int from = 0; from < text.length(); from += 8) {
            int n = Math.min(8, text.length() - from);
            long bytes = random.nextLong() << 8 * (n % 8);
            bytes = n == 8 ? 0 : bytes;
            for (int k = 0; k < n; k++) {
                bytes |= (long) (text.charAt(from + k) & 255) << 8 * k;
            }
            due("feed(" + n + ", " + bytes + ")", x.feed(n, bytes), model.feed(n, bytes));
        }
    }

    private void readMaze() {
        feed(random.nextInt(3) == 0 ? corridor() : randomMaze());
        due("maze()", x.maze(), model.maze());
    }

    private String randomMaze() {
        int rooms = 1 + random.nextInt(10);
        boolean[] leads = new boolean[40];
        StringBuilder s = new StringBuilder().append((char) ('a' + rooms - 1));
        int parts = random.nextInt(27);
        int bothWays = random.nextInt(4);
        int doors = 1 + random.nextInt(4);
        for (int k = 0; k < parts; k++) {
            int one = 4 * random.nextInt(rooms) + random.nextInt(doors);
            int other = 4 * random.nextInt(rooms) + random.nextInt(doors);
            boolean both = random.nextInt(4) < bothWays;
            if (leads[one] || both && leads[other]) {
                if (random.nextInt(40) != 0) {
                    continue;
                }
            }
            leads[one] = true;
            leads[other] |= both;
            s.append(';').append((char) ('a' + one / 4)).append(one % 4).append(both ? '-' : '>')
                .append((char) ('a' + other / 4)).append(other % 4);
        }
        if (random.nextInt(5) == 0) {
            spoil(s);
        }
        return s.substring(0, Math.min(160, s.length()));
    }

    /** Rooms in a row or round, alike for long, and perhaps one door more somewhere. */
    private String corridor() {
        int rooms = 1 + random.nextInt(10), on = random.nextInt(4), in = random.nextInt(4);
        boolean round = random.nextBoolean(), both = on != in && random.nextBoolean();
        StringBuilder s = new StringBuilder().append((char) ('a' + rooms - 1));
        for (int k = 0; k < (round ? rooms : rooms - 1); k++) {
            s.append(';').append((char) ('a' + k)).append(on).append(both ? '-' : '>')
                .append((char) ('a' + (k + 1) % rooms)).append(in);
        }
        int more = (on + 1) % 4 == in ? (in + 1) % 4 : (on + 1) % 4;
        if (random.nextInt(3) == 0) {
            s.append(';').append((char) ('a' + random.nextInt(rooms))).append(more).append('>')
                .append((char) ('a' + random.nextInt(rooms))).append(random.nextInt(4));
        }
        return s.toString();
    }

    private void spoil(StringBuilder s) {
        int at = below(s.length());
        switch (random.nextInt(4)) {
            case 0: s.setLength(at); break;
            case 1: if (s.length() > 0) s.setCharAt(at, (char) random.nextInt(256)); break;
            case 2: if (s.length() > 0) s.deleteCharAt(at); break;
            default: s.insert(at, "abcjk;0134->() \n".charAt(random.nextInt(16)));
        }
    }

    private String randomText() {
        StringBuilder s = new StringBuilder();
        if (random.nextInt(3) == 0) {
            for (int k = random.nextInt(12); k > 0; k--) {
                s.append(PIECES[random.nextInt(PIECES.length)]).append(blank());
            }
            s.insert(0, random.nextInt(4) == 0 ? "" : "go ");
            return s.toString();
        }
        int deep = random.nextInt(5);
        s.append("go ").append(expression(deep, 0)).append(blank()).append(';').append(blank());
        s.append("put ").append(expression(random.nextInt(4), 0)).append(";take ").append(expression(random.nextInt(3), 0)).append(';');
        s.append(blank());
        if (random.nextInt(3) == 0) {
            spoil(s);
        }
        return s.substring(0, Math.min(160, s.length()));
    }

    private String blank() {
        return random.nextInt(3) == 0 ? "\n" : random.nextInt(2) == 0 ? " " : random.nextInt(3) == 0 ? "" : "  ";
    }

    /** Level 0: or; 1: and; 2: not; 3: a comparison; 4: a sum; 5: a product; 6: one. */
    private String expression(int deep, int level) {
        if (level == 6 || deep <= 0 && random.nextInt(3) == 0) {
            int what = deep <= 0 ? random.nextInt(8) : random.nextInt(12);
            return what < 5 ? PIECES[random.nextInt(6)] : what < 8 ? "" + random.nextInt(random.nextInt(6) == 0 ? 10000 : 6)
                : what < 10 ? "-" + expression(deep - 1, 6) : "(" + expression(deep - 1, 0) + ")";
        }
        boolean joins = deep > 0 && random.nextInt(4) == 0;
        switch (level) {
            case 0: return expression(deep, 1) + (joins ? " or " + expression(deep - 1, 1) : "");
            case 1: return expression(deep, 2) + (joins ? " and " + expression(deep - 1, 2) : "");
            case 2: return joins ? "not " + expression(deep - 1, 2) : expression(deep, 3);
            case 3: return expression(deep, 4) + (joins ? (random.nextBoolean() ? "<" : " = ") + expression(deep - 1, 4) : "");
            case 4: return expression(deep, 5) + (joins ? (random.nextBoolean() ? "+" : "-") + expression(deep - 1, 5) : "");
            default: return expression(deep, 6) + (joins ? "*" + expression(deep - 1, 6) : "");
        }
    }

    private void oneCall() {
        int w = one(model.count(1)), m = one(model.count(0)), a, b, c, d, e;
        switch (random.nextInt(36)) {
            case 0:
                if (random.nextInt(8) == 0) {
                    a = any(1, 8);
                    long bytes = random.nextLong();
                    due("feed(" + a + ", " + bytes + ")", x.feed(a, bytes), model.feed(a, bytes));
                }
                break;
            case 1: if (random.nextInt(6) == 0) readMaze(); break;
            case 2: case 3: case 4:
                if (model.count(2) < 6 || random.nextInt(20) == 0) {
                    feed(randomText());
                    due("text()", x.text(), model.text());
                }
                break;
            case 5: case 6: a = one(model.count(2)); due("force(" + a + ")", x.force(a), model.force(a)); break;
            case 7: a = random.nextInt(5) == 0 ? -1 : room(m); b = any(0, 3); due("leads(" + m + ", " + a + ", " + b + ")", x.leads(m, a, b), model.leads(m, a, b)); break;
            case 8: a = room(m); b = random.nextInt(4) == 0 ? any(0, 99) : any(0, 3);
                due("pebbles(" + m + ", " + a + ", " + b + ")", x.pebbles(m, a, b), model.pebbles(m, a, b)); break;
            case 9: a = any(0, 5); b = 10 * m + room(m); c = 100 * any(0, 9) + any(0, 11);
                due("walker(" + a + ", " + b + ", " + c + ")", x.walker(a, b, c), model.walker(a, b, c)); break;
            case 10: case 11: case 12: a = any(0, 8); due("told(" + w + ", " + a + ")", x.told(w, a), model.told(w, a)); break;
            case 13: a = any(0, 2); due("says(" + w + ", " + a + ")", x.says(w, a), model.says(w, a)); break;
            case 14: case 15: case 16: a = random.nextInt(10) == 0 ? any(1, 100) : any(1, 7);
                due("step(" + w + ", " + a + ")", x.step(w, a), model.step(w, a)); break;
            case 17: a = any(0, 200); b = any(0, 2); due("run(" + w + ", " + a + ", " + b + ")", x.run(w, a, b), model.run(w, a, b)); break;
            case 18: case 19: a = any(0, 1); due("ring(" + w + ", " + a + ")", x.ring(w, a), model.ring(w, a)); break;
            case 20: a = one(model.count(1)); due("meet(" + w + ", " + a + ")", x.meet(w, a), model.meet(w, a)); break;
            case 21: a = random.nextInt(4) == 0 ? -1 : room(m); due("alike(" + m + ", " + a + ")", x.alike(m, a), model.alike(m, a)); break;
            case 22: case 34: case 35: b = one(model.count(0)); a = 10 * m + room(m); b = 10 * b + room(b); c = any(0, 1);
                due("tells(" + a + ", " + b + ", " + c + ")", x.tells(a, b, c), model.tells(a, b, c)); break;
            case 23: a = 10 * room(m) + room(m); due("way(" + m + ", " + a + ")", x.way(m, a), model.way(m, a)); break;
            case 24: a = room(m); due("all(" + m + ", " + a + ")", x.all(m, a), model.all(m, a)); break;
            case 25: due("free(" + m + ")", x.free(m), model.free(m)); break;
            case 26: case 27:
                if (random.nextBoolean()) tellWalk();
                a = any(0, 3); b = any(0, 1);
                due("begins(" + m + ", " + a + ", " + b + ")", x.begins(m, a, b), model.begins(m, a, b)); break;
            case 28: if (random.nextBoolean()) due("image()", x.image(), model.image()); else due("back()", x.back(), model.back()); break;
            case 29: a = any(0, 6); due("count(" + a + ")", x.count(a), model.count(a)); break;
            case 30: a = any(0, 3); b = any(-1, 2); c = any(0, 40); due("sheet(" + a + ", " + b + ", " + c + ")", x.sheet(a, b, c), model.sheet(a, b, c)); break;
            case 31:
                for (int k = 0; k < 6; k++) {
                    a = any(0, 3); b = any(0, 12); c = random.nextInt(3) == 0 ? random.nextInt() : any(0, 6);
                    due("cell(" + a + ", " + b + ", " + c + ")", x.cell(a, b, c), model.cell(a, b, c));
                }
                break;
            case 32: a = any(0, 3); b = any(0, 20); c = any(0, 3); d = any(0, 20); e = any(0, 20);
                due("copy(" + a + ", " + b + ", " + c + ", " + d + ", " + e + ")", x.copy(a, b, c, d, e), model.copy(a, b, c, d, e)); break;
            default:
                if (random.nextBoolean()) {
                    a = any(0, 5);
                    due("taken(" + w + ", " + a + ")", x.taken(w, a), model.taken(w, a));
                } else {
                    a = any(0, 3); b = random.nextInt(3) == 0 ? any(0, 2) : model.sorts[Math.max(0, Math.min(3, a))]; c = any(0, 30); d = any(0, 8);
                    due("walkers(" + a + ", " + b + ", " + c + ", " + d + ")", x.walkers(a, b, c, d), model.walkers(a, b, c, d));
                }
        }
    }

    /** A walk of a maze is written to a sheet, at times with one number changed. */
    private void tellWalk() {
        int m = below(model.count(0));
        if (model.count(0) == 0) {
            return;
        }
        Model.Maze maze = model.mazes.get(m);
        int room = random.nextInt(maze.rooms), sheet = random.nextInt(4), n = 2 * random.nextInt(9);
        int sort = random.nextInt(3);
        due("sheet(" + sheet + ", " + sort + ", " + n + ")", x.sheet(sheet, sort, n), model.sheet(sheet, sort, n));
        for (int k = 0; k < n; k += 2) {
            if (maze.leading(room).isEmpty()) {
                break;
            }
            int door = maze.leading(room).get(random.nextInt(maze.leading(room).size()));
            int came = random.nextInt(15) == 0 ? random.nextInt(4) : maze.doorTo(room, door);
            due("cell(" + sheet + ", " + k + ", " + door + ")", x.cell(sheet, k, door), model.cell(sheet, k, door));
            due("cell(" + sheet + ", " + (k + 1) + ", " + came + ")", x.cell(sheet, k + 1, came), model.cell(sheet, k + 1, came));
            room = maze.roomTo(room, door);
        }
    }
}
