/** The boundary cases that the document names of what can be known: promises 15 to 23. */
public final class KnownBoundsTest {
    private static final int NONE = -1, BAD = -2, STATE = -3;
    private static final int LEAST = Integer.MIN_VALUE, GREATEST = Integer.MAX_VALUE;
    /** Door 0 leads on round ten rooms. */
    private static final String TEN_ROUND = "j;a0>b0;b0>c0;c0>d0;d0>e0;e0>f0;f0>g0;g0>h0;h0>i0;i0>j0;j0>a0";
    /** The same without the way from the last to the first. */
    private static final String TEN_IN_A_ROW = "j;a0>b0;b0>c0;c0>d0;d0>e0;e0>f0;f0>g0;g0>h0;h0>i0;i0>j0";
    private static final String TO_ITSELF = "a;a0>a0";

    public static void main(String[] args) {
        oneToTenKindsOfRooms();
        alikeHereToo();
        alikeRefuses();
        tellsHere();
        tellsOfOneGoingOn();
        tellsOfEightAndMore();
        tellsOfNone();
        tellsTheFirstByDoors();
        tellsFarByManyWays();
        tellsOfTheLastRoomsAndDoors();
        tellsRefuses();
        tellsIsCutTowardZero();
        wayAtItsEnds();
        wayRefuses();
        allAtItsEnds();
        allRefuses();
        freeAtItsEnds();
        freeRefuses();
        aWalkOfNothing();
        aWalkOfForty();
        barsAtItsEnds();
        aWalkIsEven();
        aWalkIsOfDoors();
        beginsRefusesInItsOrder();
        thereIsNoImage();
        anImageOfNone();
        anImageOfEight();
        anImageIsKeptTillAnother();
        whatAnImageKeeps();
        whatAnImageDoesNotKeep();
        walkersThatCameSince();
        countAtItsEnds();
        countRefuses();
        Check.close("KnownBoundsTest");
    }

    private static void due(String call, long got, long want) {
        Check.due(call, got, want);
    }

    // ---- promise 15

    /** "PARTS of a MAZE: how many kinds of ROOMS there are; KIND of a ROOM: the least ROOM that is ALIKE" */
    private static void oneToTenKindsOfRooms() {
        ElevenPebbles x = Check.with("a", "j", TEN_ROUND, TEN_IN_A_ROW);
        int[] parts = {1, 1, 1, 10};
        for (int maze = 0; maze < 4; maze++) {
            due("parts of maze " + maze, x.alike(maze, NONE), parts[maze]);
            for (int room = 0; room < x.leads(maze, NONE, 0); room++) {
                due("kind of room " + room + " of maze " + maze, x.alike(maze, room), maze == 3 ? room : 0);
            }
        }
    }

    /** "the same DOORS lead on each time (here, too), and one comes in by the same DOORS" */
    private static void alikeHereToo() {
        ElevenPebbles x = Check.with("b;a0>a0;b1>b0", "b;a0>a0;b0>b1", "b;a0>b0;b0>a0", "c;a0>c0;b0>c0;c1>c1");
        due("unlike doors here", x.alike(0, NONE), 2);
        due("one comes in by unlike doors", x.alike(1, NONE), 2);
        due("each to the other", x.alike(2, NONE), 1);
        due("two into a third", x.alike(3, NONE), 2);
        due("the second is as the first", x.alike(3, 1), 0);
        due("the third is of its own kind", x.alike(3, 2), 2);
    }

    private static void alikeRefuses() {
        for (int room : new int[] {-2, 4, 10, LEAST, GREATEST}) {
            Twin.refused("alike: room " + room, Twin::rich, x -> x.alike(0, room), BAD);
        }
        for (int maze : new int[] {-1, 2, 4, LEAST, GREATEST}) {
            Twin.refused("alike: maze " + maze, Twin::rich, x -> x.alike(maze, 0), BAD);
            Twin.refused("alike: maze " + maze + ", room NONE", Twin::rich, x -> x.alike(maze, NONE), BAD);
        }
        Twin.refused("alike: a fifth maze", Twin::full, x -> x.alike(4, NONE), BAD);
        Twin.refused("alike: nothing changes", Twin::rich, x -> x.alike(0, NONE), 4);
    }

    // ---- promise 16

    /** "(0: DOORS that lead on are unlike here)" */
    private static void tellsHere() {
        ElevenPebbles x = Check.with("b;a0>a0", "a;a1>a0", "a;a0>a0;a3>a3");
        int[][] pairs = {{0, 1}, {1, 0}, {0, 10}, {0, 20}, {1, 20}};
        for (int[] pair : pairs) {
            due("goings on from " + pair[0] + " and " + pair[1], x.tells(pair[0], pair[1], 0), 0);
            due("no digit", x.tells(pair[0], pair[1], 1), 0);
        }
        ElevenPebbles y = Check.with(TEN_IN_A_ROW);
        due("a walk of one", y.tells(7, 8, 1), 1);
        due("no digit behind it", y.tells(8, 9, 1), 0);
    }

    private static void tellsOfOneGoingOn() {
        for (int door = 0; door < 4; door++) {
            ElevenPebbles x = Check.with("b;a" + door + ">b0", "b;a" + door + ">b1", "a;a" + door + ">a0");
            due("unlike doors in by " + door, x.tells(0, 10, 0), 1);
            due("its digit is one more", x.tells(0, 10, 1), door + 1);
            due("unlike doors on behind " + door, x.tells(0, 20, 0), 1);
            due("its digit is one more", x.tells(0, 20, 1), door + 1);
        }
    }

    /** "(1; of the first 8 alone)" */
    private static void tellsOfEightAndMore() {
        String special = ";j1>j1", nine = TEN_IN_A_ROW.replace(";i0>j0", "").replace("j;", "i;");
        ElevenPebbles x = Check.with(TEN_IN_A_ROW, TO_ITSELF, TEN_ROUND + special, nine + ";i0>a0;i1>i1");
        int[] walks = {11111111, 11111111, 1111111, 111111};
        for (int room = 0; room < walks.length; room++) {
            due("goings on from " + room, x.tells(room, 10, 0), 9 - room);
            due("walk from " + room, x.tells(room, 10, 1), walks[room]);
        }
        due("round ten and round nine: seventeen", x.tells(21, 30, 0), 17);
        due("of which the first eight", x.tells(21, 30, 1), 11111111);
        ElevenPebbles y = Check.with(TEN_IN_A_ROW.replace('0', '3'), "a;a3>a3");
        due("nine by door 3", y.tells(0, 10, 0), 9);
        due("the greatest walk there is", y.tells(0, 10, 1), 44444444);
        due("eight by door 3", y.tells(1, 10, 1), 44444444);
        due("seven by door 3", y.tells(2, 10, 1), 4444444);
    }

    private static void tellsOfNone() {
        ElevenPebbles x = Check.with("j", TEN_ROUND, TO_ITSELF, "a");
        int[][] pairs = {{0, 0}, {0, 9}, {0, 30}, {10, 19}, {19, 20}, {20, 20}};
        for (int[] pair : pairs) {
            due("NONE: " + pair[0] + " and " + pair[1], x.tells(pair[0], pair[1], 0), NONE);
            due("NONE for the walk, too", x.tells(pair[0], pair[1], 1), NONE);
        }
        ElevenPebbles y = Check.with("f;a0>b0;b0>c0;c0>d0;e0>e0;f0>f0");
        due("two that are parted", y.tells(0, 1, 0), 2);
        due("NONE behind them", y.tells(4, 5, 0), NONE);
        due("NONE for the walk behind them", y.tells(4, 5, 1), NONE);
    }

    /** "of like ones the first by DOORS" */
    private static void tellsTheFirstByDoors() {
        String parts = "a0>a0;a1>b0;a2>c0;b0>a0;b3>a0;c0>a0;c1>a0";
        ElevenPebbles x = Check.with("c;" + parts, "c;" + parts.replace("b0>a0", "b0>a1").replace("c0>a0", "c0>a2"),
            "c;" + parts.replace("b3>a0", "b3>a1").replace("c0>a0", "c0>a2"));
        due("by 1 and 0, or by 2 and 0", x.tells(0, 10, 0), 2);
        due("the first", x.tells(0, 10, 1), 21);
        due("by 1 and 3, or by 2 and 0", x.tells(0, 20, 0), 2);
        due("the first, though its last door is greater", x.tells(0, 20, 1), 24);
        due("and from there", x.tells(2, 22, 1), 1);
    }

    /** Two doors lead to each next room: pairs that were there are not gone through again. */
    private static void tellsFarByManyWays() {
        StringBuilder s = new StringBuilder("j");
        for (char room = 'a'; room < 'j'; room++) {
            char next = (char) (room + 1);
            s.append(';').append(room).append("0>").append(next).append("0;").append(room).append("3>").append(next).append("3");
        }
        ElevenPebbles x = Check.with(s.toString(), "a;a0>a0;a3>a3");
        for (int room = 0; room < 10; room++) {
            due("from room " + room, x.tells(room, 10, 0), 9 - room);
            due("from there, the other way about", x.tells(10, room, 0), 9 - room);
        }
        due("the first walk", x.tells(0, 10, 1), 11111111);
    }

    private static void tellsOfTheLastRoomsAndDoors() {
        ElevenPebbles x = Check.with("j;a3>j3;j3>i3;i3>h3;h3>g3", "j;a3>j3;j3>i3;i3>h3;h3>f3;f3>f3", "j;j3>a3;a3>b3", "j;a3>j3;j3>i2");
        due("j, i, h, then g and f", x.tells(0, 10, 0), 4);
        due("by 3 alone", x.tells(0, 10, 1), 4444);
        due("the same from j", x.tells(9, 19, 1), 444);
        due("rooms of unlike letters", x.tells(9, 29, 0), 2);
        due("one comes into i by 2 or by 3", x.tells(0, 30, 0), 2);
        due("and into a by 3", x.tells(39, 29, 1), 4);
    }

    private static void tellsRefuses() {
        for (int what : new int[] {-1, 2, LEAST, GREATEST}) {
            Twin.refused("tells: what " + what, Twin::rich, x -> x.tells(0, 1, what), BAD);
            Twin.refused("tells: BAD ahead of NONE", Twin::rich, x -> x.tells(0, 0, what), BAD);
        }
        for (int none : new int[] {4, 9, 13, 20, 40, 100, GREATEST}) {
            Twin.refused("tells: one is " + none, Twin::rich, x -> x.tells(none, 0, 0), BAD);
            Twin.refused("tells: other is " + none, Twin::rich, x -> x.tells(0, none, 0), BAD);
            Twin.refused("tells: both are " + none, Twin::rich, x -> x.tells(none, none, 0), BAD);
        }
        ElevenPebbles x = Check.with("a", "a", "a", "j");
        due("the last room of the last maze", x.tells(39, 30, 0), NONE);
        due("a fifth maze", x.tells(40, 30, 0), BAD);
        Twin.refused("tells: nothing changes", Twin::rich, y -> y.tells(0, 1, 1), 2);
    }

    private static void tellsIsCutTowardZero() {
        for (int none : new int[] {-1, -9, -10, -11, LEAST}) {
            Twin.refused("tells: one is " + none, Twin::rich, x -> x.tells(none, 0, 0), BAD);
            Twin.refused("tells: other is " + none, Twin::rich, x -> x.tells(0, none, 0), BAD);
        }
    }

    // ---- promise 17: "the least goings on; NONE"

    private static void wayAtItsEnds() {
        ElevenPebbles x = Check.with(TEN_IN_A_ROW, TEN_ROUND, "a", "j");
        for (int room = 0; room < 10; room++) {
            due("from a room to itself", x.way(0, 11 * room), 0);
            due("from a to room " + room, x.way(0, room), room);
            due("from room " + room + " to a", x.way(0, 10 * room), room == 0 ? 0 : NONE);
            due("round to a", x.way(1, 10 * room), (10 - room) % 10);
            due("no doors", x.way(3, room), room == 0 ? 0 : NONE);
        }
        for (int room = 8; room >= 0; room--) {
            due("from j to room " + room, x.way(0, 90 + room), NONE);
        }
        due("one room", x.way(2, 0), 0);
        due("from j to i", x.way(1, 98), 9);
        due("from j to j", x.way(1, 99), 0);
    }

    private static void wayRefuses() {
        for (int rooms : new int[] {-1, -9, -10, -11, 4, 9, 14, 40, 44, 100, 103, LEAST, GREATEST}) {
            Twin.refused("way: rooms " + rooms, Twin::rich, x -> x.way(0, rooms), BAD);
        }
        for (int maze : new int[] {-1, 2, 4, LEAST, GREATEST}) {
            Twin.refused("way: maze " + maze, Twin::rich, x -> x.way(maze, 0), BAD);
        }
        Twin.refused("way: a fifth maze", Twin::full, x -> x.way(4, 0), BAD);
        due("rooms 100 of ten", Check.with("j").way(0, 100), BAD);
        Twin.refused("way: nothing changes", Twin::rich, x -> x.way(0, 33), 0);
    }

    // ---- promise 18: "the least goings on till each ROOM was there (the first counts); NONE"

    private static void allAtItsEnds() {
        ElevenPebbles x = Check.with("a", "a;a0-a0", TEN_IN_A_ROW, TEN_ROUND);
        due("one room", x.all(0, 0), 0);
        due("one room with a door", x.all(1, 0), 0);
        for (int room = 0; room < 10; room++) {
            due("in a row from " + room, x.all(2, room), room == 0 ? 9 : NONE);
            due("round from " + room, x.all(3, room), 9);
        }
        ElevenPebbles y = Check.with("b", "b;a3>b3", "j;a0-b0;a1-c0;a2-d0;b1-e0;b2-f0;c1-g0;c2-h0;d1-i0;d2-j0",
            "j;a0>b0;b0>c0;c0>d0;d0>e0;e0>f0;f0>g0;g0>h0;h0>i0;i0>j0;i1>a0;j0>a0");
        due("two rooms, no door", y.all(0, 0), NONE);
        due("two rooms, a door", y.all(1, 0), 1);
        due("two rooms, no door back", y.all(1, 1), NONE);
        due("a tree from its root: there and back but for the last", y.all(2, 0), 16);
        due("a tree from a leaf", y.all(2, 9), 14);
        due("from i: all round, and j last or first", y.all(3, 8), 9);
        ElevenPebbles z = Check.with("c;a0>b0;b0>a0;b1>c0",
            "j;j2-h2;a0-d0;g2-g2;c0-f2;d2-i0;h0-b1;a2-e1;g3-b0;j0-e2;j3-f0;f3-b2;i2-f1;g0-d3;e0-g1;a1-b3");
        due("no way on from c, though all can be gone from a", z.all(0, 2), NONE);
        due("from b", z.all(0, 1), 3);
        due("fifteen doors both ways: all but for one at once", z.all(1, 5), 10);
    }

    private static void allRefuses() {
        for (int room : new int[] {-1, 4, 10, LEAST, GREATEST}) {
            Twin.refused("all: room " + room, Twin::rich, x -> x.all(0, room), BAD);
        }
        for (int maze : new int[] {-1, 2, 4, LEAST, GREATEST}) {
            Twin.refused("all: maze " + maze, Twin::rich, x -> x.all(maze, 0), BAD);
        }
        Twin.refused("all: a fifth maze", Twin::full, x -> x.all(4, 0), BAD);
        Twin.refused("all: BAD ahead of NONE", Twin::rich, x -> x.all(1, 3), BAD);
        Twin.refused("all: nothing changes", Twin::rich, x -> x.all(0, 3), 3);
    }

    // ---- promise 19: "ROOMS (bits) from which one comes to all"

    private static void freeAtItsEnds() {
        ElevenPebbles x = Check.with("a", "j", TEN_ROUND, TEN_IN_A_ROW);
        due("one room", x.free(0), 1);
        due("ten without doors", x.free(1), 0);
        due("ten round", x.free(2), 1023);
        due("ten in a row: the first", x.free(3), 1);
        ElevenPebbles y = Check.with("j;j0>i0;i0>h0;h0>g0;g0>f0;f0>e0;e0>d0;d0>c0;c0>b0;b0>a0", "b;a0>b0", "b;b0>a0", "b");
        due("ten in a row: the last", y.free(0), 512);
        due("a alone", y.free(1), 1);
        due("b alone", y.free(2), 2);
        due("none", y.free(3), 0);
    }

    private static void freeRefuses() {
        for (int maze : new int[] {-1, 2, 4, LEAST, GREATEST}) {
            Twin.refused("free: maze " + maze, Twin::rich, x -> x.free(maze), BAD);
        }
        Twin.refused("free: the fourth maze", Twin::full, x -> x.free(3), 3);
        Twin.refused("free: a fifth maze", Twin::full, x -> x.free(4), BAD);
    }

    // ---- promise 20

    private static void aWalkOfNothing() {
        for (int sort = 0; sort < 3; sort++) {
            ElevenPebbles x = Check.with("j", "a");
            x.sheet(2, sort, 0);
            due("all ten are left", x.begins(0, 2, 0), 1023);
            due("NONE: some are left", x.begins(0, 2, 1), NONE);
            due("the one is left", x.begins(1, 2, 0), 1);
        }
    }

    private static void aWalkOfForty() {
        for (int sort = 0; sort < 3; sort++) {
            ElevenPebbles x = Check.with(TEN_ROUND, TEN_ROUND.replace("j0>a0", "j0>a3"), TEN_IN_A_ROW);
            x.sheet(3, sort, 40);
            due("twenty goings on: all are left", x.begins(0, 3, 0), 1023);
            due("none is barred", x.begins(0, 3, 1), NONE);
            due("twice round, once by another door: none is left", x.begins(1, 3, 0), 0);
            due("a comes there last, by its tenth going on", x.begins(1, 3, 1), 19);
            due("in a row none goes on for ten", x.begins(2, 3, 0), 0);
            due("the tenth going on of a", x.begins(2, 3, 1), 18);
            x.sheet(3, sort, 18);
            due("nine goings on: a is left", x.begins(2, 3, 0), 1);
            due("nine round by another door: a is left", x.begins(1, 3, 0), 1);
        }
    }

    /** "BARS: the first place of the SHEET at which none is left (..) (NONE: some are left)" */
    private static void barsAtItsEnds() {
        ElevenPebbles x = Check.with("a;a0>a0", "a");
        x.sheet(0, 0, 40);
        due("no bar", x.begins(0, 0, 1), NONE);
        for (int place = 39; place >= 0; place--) {
            x.cell(0, place, 3);
            due("a bar at " + place, x.begins(0, 0, 1), place);
        }
        due("none is left", x.begins(0, 0, 0), 0);
        due("no door at all", x.begins(1, 0, 1), 0);
        ElevenPebbles y = Check.with("c;a1>b1;b1>c1;c2>a2");
        Check.fill(y, 0, 1, 1, 1, 1, 1);
        due("a is left", y.begins(0, 0, 0), 1);
        Check.fill(y, 0, 1, 1, 1, 1, 2);
        due("b was barred by its door, a by the door in", y.begins(0, 0, 1), 3);
    }

    /** "BAD: its size is odd": whatever was barred ahead */
    private static void aWalkIsEven() {
        ElevenPebbles x = Check.with(TO_ITSELF);
        for (int sort = 0; sort < 3; sort++) {
            for (int size = 0; size <= 40; size++) {
                x.sheet(1, sort, size);
                due("size " + size, x.begins(0, 1, 0), size % 2 == 0 ? 1 : BAD);
                due("size " + size, x.begins(0, 1, 1), size % 2 == 0 ? NONE : BAD);
            }
        }
        ElevenPebbles y = Check.with("a");
        Check.fill(y, 1, 0, 0, 0, 0);
        due("odd behind a bar", y.begins(0, 1, 1), BAD);
    }

    /** "BAD: (..) a number is no DOOR": at each place, whatever was barred ahead */
    private static void aWalkIsOfDoors() {
        for (int sort = 0; sort < 3; sort++) {
            for (int place = 0; place < 4; place++) {
                ElevenPebbles x = Check.with("a;a0>a0;a1>a1;a2>a2;a3>a3");
                x.sheet(0, sort, 4);
                for (int v : new int[] {-1, 4, 5, 100, 127, 128, 255, LEAST + 4}) {
                    x.cell(0, place, v);
                    due(v + " at " + place + " is no door", x.begins(0, 0, 0), BAD);
                    due(v + " at " + place + " is no door", x.begins(0, 0, 1), BAD);
                }
                x.cell(0, place, 3);
                due("3 is one", x.begins(0, 0, 1), place % 2 == 0 ? place + 1 : place);
                x.cell(0, place, 0);
                due("0 is one", x.begins(0, 0, 0), 1);
            }
        }
        ElevenPebbles y = Check.with("a");
        Check.fill(y, 0, 2, 0, 0, 0, 4);
        due("no door behind a bar", y.begins(0, 0, 1), BAD);
    }

    /** "BAD: MAZE, SHEET, what; -11; BAD: its size is odd, a number is no DOOR; NONE." */
    private static void beginsRefusesInItsOrder() {
        for (int maze : new int[] {-1, 2, 4, LEAST, GREATEST}) {
            Twin.refused("begins: maze " + maze, Twin::rich, x -> x.begins(maze, 0, 0), BAD);
            Twin.refused("begins: maze " + maze + " ahead of -11", Twin::rich, x -> x.begins(maze, 3, 0), BAD);
        }
        for (int sheet : new int[] {-1, 4, LEAST, GREATEST}) {
            Twin.refused("begins: sheet " + sheet, Twin::rich, x -> x.begins(0, sheet, 0), BAD);
        }
        for (int what : new int[] {-1, 2, LEAST, GREATEST}) {
            Twin.refused("begins: what " + what, Twin::rich, x -> x.begins(0, 0, what), BAD);
            Twin.refused("begins: what " + what + " ahead of -11", Twin::rich, x -> x.begins(0, 3, what), BAD);
        }
        Twin.refused("begins: a missing sheet", Twin::rich, x -> x.begins(0, 3, 0), -11);
        Twin.refused("begins: a missing sheet, bars", Twin::rich, x -> x.begins(1, 3, 1), -11);
        Twin.refused("begins: no doors", Twin::rich, x -> x.begins(0, 1, 0), BAD);
        Twin.refused("begins: nothing changes", Twin::rich, x -> x.begins(0, 0, 0), 1);
        Twin.refused("begins: nothing changes by NONE", Twin::rich, x -> x.begins(0, 0, 1), NONE);
    }

    // ---- promises 21 and 22

    /** "STATE: there is none." */
    private static void thereIsNoImage() {
        due("new", new ElevenPebbles().back(), STATE);
        Twin.refused("back without an image", Twin::full, ElevenPebbles::back, STATE);
        due("once more", twice(new ElevenPebbles()), STATE);
    }

    private static int twice(ElevenPebbles x) {
        x.back();
        return x.back();
    }

    private static void anImageOfNone() {
        ElevenPebbles x = new ElevenPebbles();
        due("nothing at all", x.image(), 0);
        due("is an image", x.back(), 0);
        Check.maze(x, "a");
        x.walker(0, 0, 0);
        due("one came since", x.back(), 1);
    }

    private static void anImageOfEight() {
        ElevenPebbles x = new ElevenPebbles();
        Twin.full(x);
        due("eight", x.image(), 8);
        for (int walker = 0; walker < 8; walker++) {
            x.step(walker, 1);
        }
        due("they went on", x.told(7, 6), 1);
        due("eight laid back", x.back(), 8);
        for (int walker = 0; walker < 8; walker++) {
            due("no STEPS", x.told(walker, 6), 0);
            due("in a", x.told(walker, 2), 0);
            due("eleven in the bag", x.told(walker, 5), 11);
        }
        due("99 lie", x.count(5), 99);
    }

    private static void anImageIsKeptTillAnother() {
        ElevenPebbles x = Check.with(TEN_ROUND);
        x.walker(0, 0, 0);
        x.image();
        x.step(0, 3);
        due("an image", x.image(), 1);
        x.step(0, 4);
        x.back();
        due("as in the last one", x.told(0, 2), 3);
        x.step(0, 5);
        x.back();
        due("which stays", x.told(0, 2), 3);
        Twin.changes("another image", Twin::rich, ElevenPebbles::image, 6);
        Twin.changes("back", Twin::rich, ElevenPebbles::back, 6);
    }

    /** "PEBBLES of all MAZES; ROOMS, CAME, BAGS, STEPS, DOORS gone of all WALKERS, THE RULE" */
    private static void whatAnImageKeeps() {
        ElevenPebbles x = Check.with("b;a0>b3;b1>a2;b2>a1", "a", "a", "j");
        x.walker(2, 0, 5);
        x.pebbles(3, 9, 99);
        x.step(0, 1);
        x.image();
        Check.text(x, "go 2;put 0;take 1;");
        x.force(1);
        x.pebbles(3, 9, 0);
        x.pebbles(0, 1, 50);
        x.step(0, 9);
        due("back", x.back(), 1);
        due("pebbles of the last room there is", x.pebbles(3, 9, 0), 99);
        due("pebbles of b", x.pebbles(0, 1, 0), 0);
        due("pebbles of a", x.pebbles(0, 0, 0), 1);
        due("ROOM", x.told(0, 2), 1);
        due("CAME", x.told(0, 3), 3);
        due("BAG", x.told(0, 5), 4);
        due("STEPS", x.told(0, 6), 1);
        due("no DOORS gone from b", x.told(0, 8), 0);
        due("THE RULE", x.count(4), 0);
        x.step(0, 1);
        due("DOORS gone from a", x.told(0, 8), 1);
        x.force(1);
        x.image();
        x.force(0);
        x.back();
        due("THE RULE of another image", x.count(4), 1);
    }

    /** MAZES, TEXTS, THE TAPE and SHEETS are not named, so they stay. */
    private static void whatAnImageDoesNotKeep() {
        ElevenPebbles x = Check.with("a;a0>a0");
        x.sheet(0, 0, 2);
        x.image();
        Check.maze(x, "a;a0>a0");
        Check.text(x, "go 1;put 0;take 0;");
        Check.fill(x, 1, 2, 0, 0);
        x.cell(0, 0, 3);
        x.feed(3, 0x616161);
        x.back();
        due("MAZES", x.count(0), 2);
        due("TEXTS", x.count(2), 2);
        due("bytes of THE TAPE", x.count(3), 3);
        due("a SHEET since", x.begins(0, 1, 0), 1);
        due("a number since", x.begins(0, 0, 1), 0);
    }

    /** "(WALKERS that came since stay as they are)" */
    private static void walkersThatCameSince() {
        ElevenPebbles x = Check.with(TEN_ROUND);
        x.walker(0, 0, 1);
        x.image();
        for (int walker = 1; walker < 8; walker++) {
            x.walker(walker % 6, walker, 100 * walker + walker);
            x.step(walker, walker);
        }
        x.step(0, 2);
        due("all eight", x.back(), 8);
        due("the first is laid back", x.told(0, 2), 0);
        for (int walker = 1; walker < 8; walker++) {
            due("ROOM of " + walker, x.told(walker, 2), 2 * walker % 10);
            due("STEPS of " + walker, x.told(walker, 6), walker);
            due("NUMBER of " + walker, x.told(walker, 4), walker);
        }
        due("an image of all", x.image(), 8);
    }

    // ---- promise 23

    private static void countAtItsEnds() {
        ElevenPebbles x = new ElevenPebbles();
        Twin.full(x);
        x.force(5);
        int[] due = {4, 8, 6, 160, 5, 99, 88};
        for (int what = 0; what < due.length; what++) {
            due("full: count " + what, x.count(what), due[what]);
        }
    }

    private static void countRefuses() {
        for (int what : new int[] {-1, 7, LEAST, GREATEST}) {
            Twin.refused("count: what " + what, Twin::rich, x -> x.count(what), BAD);
        }
        Twin.refused("count: nothing changes", Twin::rich, x -> x.count(3), 17);
    }
}
