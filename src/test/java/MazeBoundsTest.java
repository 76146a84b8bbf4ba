/** The boundary cases that the document names of a new object, of THE TAPE and of MAZES: promises 1 to 3, 6, 7. */
public final class MazeBoundsTest {
    private static final int NONE = -1, BAD = -2, STATE = -3, FULL = -4;

    public static void main(String[] args) {
        aNewObjectIsEmpty();
        aNewObjectRefusesWhatNeedsAMaze();
        aNewObjectRefusesWhatNeedsAWalker();
        aFeedHasOneToEightBytes();
        aFeedTakesTheLowestBytesAlone();
        aTapeHas160Bytes();
        aFeedThatDoesNotFitIsFull();
        aFeedIsBadAheadOfFull();
        thereAreFourMazes();
        aFifthMazeLeavesTheTape();
        aMazeThatIsFullIsNotLookedAt();
        aMazeHasOneToTenRooms();
        aMazeMayHaveNoParts();
        aRoomHasDoorsZeroToThree();
        bothRoomsAreThere();
        aDoorLeadsToNoTwo();
        aDoorOfAWayInMayLeadOn();
        aDoorMayLeadToItself();
        nothingStandsBetween();
        aMazeThatEndsTooEarly();
        aMazeOfTheWholeTape();
        ofTwoFaultsTheFirst();
        eachByteOfAMaze();
        aFaultEmptiesTheTapeAlone();
        aMazeIsReadAsBytes();
        leadsOfEachEnd();
        leadsRefuses();
        pebblesOfEachEnd();
        pebblesRefuses();
        Check.close("MazeBoundsTest");
    }

    private static void due(String call, long got, long want) {
        Check.due(call, got, want);
    }

    // ---- promise 1: "No MAZES."; 1 TEXT, 0 the RULE, SHEETS missing, no IMAGE

    private static void aNewObjectIsEmpty() {
        int[] counts = {0, 0, 1, 0, 0, 0, 0};
        for (int what = 0; what < counts.length; what++) {
            due("new: count " + what, new ElevenPebbles().count(what), counts[what]);
        }
        for (int sheet = 0; sheet < 4; sheet++) {
            due("new: sheet " + sheet + " is missing", new ElevenPebbles().cell(sheet, 0, 0), -11);
        }
        due("new: no image", new ElevenPebbles().back(), STATE);
        due("new: the tape is no maze", new ElevenPebbles().maze(), -100);
        due("new: the tape is no text", new ElevenPebbles().text(), -100);
    }

    private static void aNewObjectRefusesWhatNeedsAMaze() {
        due("new: leads", new ElevenPebbles().leads(0, NONE, 0), BAD);
        due("new: pebbles", new ElevenPebbles().pebbles(0, 0, 0), BAD);
        due("new: walker", new ElevenPebbles().walker(0, 0, 0), BAD);
        due("new: alike", new ElevenPebbles().alike(0, NONE), BAD);
        due("new: tells", new ElevenPebbles().tells(0, 0, 0), BAD);
        due("new: way", new ElevenPebbles().way(0, 0), BAD);
        due("new: all", new ElevenPebbles().all(0, 0), BAD);
        due("new: free", new ElevenPebbles().free(0), BAD);
        due("new: begins", new ElevenPebbles().begins(0, 0, 0), BAD);
    }

    private static void aNewObjectRefusesWhatNeedsAWalker() {
        due("new: told", new ElevenPebbles().told(0, 0), -5);
        due("new: says", new ElevenPebbles().says(0, 0), -1000000);
        due("new: step", new ElevenPebbles().step(0, 1), BAD);
        due("new: run", new ElevenPebbles().run(0, 0, 0), BAD);
        due("new: ring", new ElevenPebbles().ring(0, 0), BAD);
        due("new: meet", new ElevenPebbles().meet(0, 1), BAD);
        due("new: taken", new ElevenPebbles().taken(0, 0), -11);
        due("new: image", new ElevenPebbles().image(), 0);
    }

    // ---- promise 2: "BAD: n is not 1 .. 8. FULL."

    private static void aFeedHasOneToEightBytes() {
        due("one byte", new ElevenPebbles().feed(1, 'a'), 1);
        due("eight bytes", new ElevenPebbles().feed(8, 'a'), 8);
        for (int n : new int[] {0, -1, -8, 9, 16, 257, Integer.MIN_VALUE, Integer.MAX_VALUE}) {
            Twin.refused("feed of " + n, Twin::rich, x -> x.feed(n, 'a'), BAD);
        }
        Twin.changes("feed of one", Twin::rich, x -> x.feed(1, '1'), 18);
    }

    /** "The n lowest bytes of a number, the lowest first": a fault at n shows that no more came. */
    private static void aFeedTakesTheLowestBytesAlone() {
        long maze = Check.packed("b;a0-b0;".getBytes(), 0, 8);
        int[] due = {0, -102, -103, -104, -105, -106, 0, -108};
        for (int n = 1; n <= 8; n++) {
            ElevenPebbles x = new ElevenPebbles();
            due("feed of " + n, x.feed(n, maze), n);
            due("a maze of " + n + " bytes", x.maze(), due[n - 1]);
        }
        ElevenPebbles x = new ElevenPebbles();
        x.feed(8, 0x6161616161616180L);
        due("the sign of a byte is not carried on", x.maze(), -100);
        x.feed(1, -1L << 8 | 'a');
        due("all higher bits set", x.maze(), 0);
    }

    /** "A TEXT is read from THE TAPE (160 bytes at most)." */
    private static void aTapeHas160Bytes() {
        ElevenPebbles x = new ElevenPebbles();
        for (int k = 1; k <= 20; k++) {
            due("eight more", x.feed(8, 0), 8 * k);
        }
        due("160", x.count(3), 160);
        due("the 161st", x.feed(1, 0), FULL);
        due("160 still", x.count(3), 160);
    }

    private static void aFeedThatDoesNotFitIsFull() {
        for (int n = 1; n <= 8; n++) {
            ElevenPebbles x = new ElevenPebbles();
            Check.feed(x, " ".repeat(160 - n));
            if (n < 8) {
                due("one byte too many: " + (n + 1), x.feed(n + 1, 0), FULL);
            }
            due("refused: none of them came", x.count(3), 160 - n);
            due("just as many as have room: " + n, x.feed(n, 0), 160);
        }
        Twin.refused("a full tape", Twin::full, x -> x.feed(1, 'a'), FULL);
        Twin.refused("a full tape, eight", Twin::full, x -> x.feed(8, -1), FULL);
    }

    private static void aFeedIsBadAheadOfFull() {
        Twin.refused("9 to a full tape", Twin::full, x -> x.feed(9, 0), BAD);
        Twin.refused("0 to a full tape", Twin::full, x -> x.feed(0, 0), BAD);
    }

    // ---- promise 3 and "MAZES (4 at most, numbered from 0)"

    private static void thereAreFourMazes() {
        ElevenPebbles x = new ElevenPebbles();
        for (int maze = 0; maze < 4; maze++) {
            due("maze " + maze, Check.maze(x, "a"), maze);
            due("how many", x.count(0), maze + 1);
        }
        due("a fifth", Check.maze(x, "a"), FULL);
        due("four still", x.count(0), 4);
    }

    /** "(THE TAPE stays)": what was fed for a maze is a text yet. */
    private static void aFifthMazeLeavesTheTape() {
        ElevenPebbles x = Check.with("a", "a", "a", "a");
        x.walker(0, 30, 0);
        Check.feed(x, "go 1;put 0;take 7;");
        due("full", x.maze(), FULL);
        due("all bytes stay", x.count(3), 18);
        due("and they are the same", x.text(), 1);
        due("then the tape is empty", x.count(3), 0);
        Twin.refused("maze of a full object", Twin::full, ElevenPebbles::maze, FULL);
    }

    /** FULL, whatever THE TAPE has: no MAZE, a fault, nothing at all. */
    private static void aMazeThatIsFullIsNotLookedAt() {
        for (String tape : new String[] {"", "a", "k", "a;"}) {
            ElevenPebbles x = Check.with("a", "a", "a", "a");
            Check.feed(x, tape);
            due("full with " + tape, x.maze(), FULL);
            due("the tape stays", x.count(3), tape.length());
        }
    }

    /** "ROOMS (1 .. 10, letters a .. j)" */
    private static void aMazeHasOneToTenRooms() {
        for (int n = 1; n <= 10; n++) {
            ElevenPebbles x = new ElevenPebbles();
            due("rooms: " + n, Check.maze(x, "" + (char) ('a' + n - 1)), 0);
            due("rooms told: " + n, x.leads(0, NONE, 0), n);
            due("the last room", x.leads(0, n - 1, 0), NONE);
            due("the one behind it", x.leads(0, n, 0), BAD);
        }
        fault("k", 0);
        fault("`", 0);
        fault("A", 0);
        fault("J", 0);
        fault("0", 0);
    }

    private static void aMazeMayHaveNoParts() {
        ElevenPebbles x = Check.with("j");
        for (int room = 0; room < 10; room++) {
            for (int door = 0; door < 4; door++) {
                due("no door leads on", x.leads(0, room, door), NONE);
            }
        }
    }

    /** "each DOORS 0 .. 3" */
    private static void aRoomHasDoorsZeroToThree() {
        for (int door = 0; door < 4; door++) {
            due("from door " + door, Check.with("b;a" + door + ">b0").leads(0, 0, door), 10);
            due("into door " + door, Check.with("b;a0>b" + door).leads(0, 0, 0), 10 + door);
            due("back from door " + door, Check.with("b;a0-b" + door).leads(0, 1, door), 0);
        }
        fault("b;a4>b0", 3);
        fault("b;a/>b0", 3);
        fault("b;a0>b4", 6);
        fault("b;a0-b/", 6);
        fault("b;a9-b0", 3);
    }

    /** "Both ROOMS are there" */
    private static void bothRoomsAreThere() {
        for (int n = 1; n <= 9; n++) {
            char last = (char) ('a' + n - 1), next = (char) ('a' + n);
            due("the last room leads", Check.with(last + ";" + last + "3>a1").leads(0, n - 1, 3), 1);
            due("into the last room", Check.with(last + ";a3>" + last + "1").leads(0, 0, 3), 10 * (n - 1) + 1);
            fault(last + ";" + next + "0-a0", 2);
            fault(last + ";a0-" + next + "0", 5);
            fault(last + ";a0>" + next + "0", 5);
        }
        due("j", Check.with("j;j3-j2").leads(0, 9, 3), 92);
        fault("j;k0-a0", 2);
        fault("j;a0-k0", 5);
        fault("j;`0-a0", 2);
        fault("j;a0-`0", 5);
    }

    /** "no DOOR leads to two"; the fault is "the digit of a DOOR that would lead to two" */
    private static void aDoorLeadsToNoTwo() {
        fault("b;a0-b0;a0-b1", 9);
        fault("b;a0-b0;a0>b1", 9);
        fault("b;a0-b0;b0-a1", 9);
        fault("b;a0-b0;b0>a1", 9);
        fault("b;a0>b0;a0-b1", 9);
        fault("b;a0>b0;a0>b0", 9);
        fault("b;a0-b0;a1-a0", 12);
        fault("b;a0-b0;a1-b0", 12);
        fault("b;a0>b0;b1-a0", 12);
        fault("a;a0-a0;a0-a0", 9);
        fault("a;a0-a1;a2-a1", 12);
        fault("a;a3-a3;a3", 9);
        fault("a;a0-a1;a2-a3;a", 15);
        fault("a;a0-a1;a2-a3;a3", 15);
    }

    /** "(a DOOR by which one comes in by a way alone may lead on elsewhere, or nowhere)" */
    private static void aDoorOfAWayInMayLeadOn() {
        ElevenPebbles x = Check.with("c;a0>b0;b0>c0;a1>b0", "b;a0-b0;a1>b0", "c;a0>b0;b0-c0", "b;a0>b0");
        due("elsewhere", x.leads(0, 1, 0), 20);
        due("and another way comes in there", x.leads(0, 0, 1), 10);
        due("into a door that leads on", x.leads(1, 0, 1), 10);
        due("which leads where it led", x.leads(1, 1, 0), 0);
        due("both ways behind a way in", x.leads(2, 1, 0), 20);
        due("back to it", x.leads(2, 2, 0), 10);
        due("nowhere", x.leads(3, 1, 0), NONE);
    }

    private static void aDoorMayLeadToItself() {
        ElevenPebbles x = Check.with("a;a0-a0;a1>a1;a2>a3", "a;a3-a3");
        due("by -", x.leads(0, 0, 0), 0);
        due("by >", x.leads(0, 0, 1), 1);
        due("to another one of its room", x.leads(0, 0, 2), 3);
        due("which leads nowhere", x.leads(0, 0, 3), NONE);
        due("the last door", x.leads(1, 0, 3), 3);
    }

    private static void nothingStandsBetween() {
        String maze = "b;a0-b0";
        for (char blank : new char[] {' ', '\n', ';', '\0', (char) 255}) {
            for (int place = 0; place <= maze.length(); place++) {
                if (blank != ';' || place != 1 && place != 7) {
                    fault(maze.substring(0, place) + blank + maze.substring(place), place);
                }
            }
        }
        fault("b;;a0-b0", 2);
    }

    /** "THE TAPE's size, if it ends too early" */
    private static void aMazeThatEndsTooEarly() {
        String maze = "b;a0-b0;b1>a1";
        for (int size = 0; size <= maze.length(); size++) {
            if (size % 6 == 1) {
                due("ends well at " + size, Check.maze(new ElevenPebbles(), maze.substring(0, size)), 0);
            } else {
                fault(maze.substring(0, size), size);
            }
        }
    }

    private static void aMazeOfTheWholeTape() {
        StringBuilder s = new StringBuilder("j");
        for (int k = 0; k < 26; k++) {
            s.append(';').append((char) ('a' + k / 4)).append(k % 4).append(">j3");
        }
        due("157 bytes", Check.with(s.toString()).leads(0, 6, 1), 93);
        fault(s + ";g2", 160);
        fault(s + ";g1", 159);
        fault(s + ";gg", 159);
        fault(s + ";k2", 158);
        fault(s + ";", 158);
        fault(s + "gg2", 157);
    }

    private static void ofTwoFaultsTheFirst() {
        fault("k;z", 0);
        fault("a,z", 1);
        fault("a;b4", 2);
        fault("a;a4=", 3);
        fault("a;a0=z", 4);
        fault("a;a0-z9", 5);
        fault("a;a0-a9;z", 6);
        fault("b;a0-b0;a0=", 9);
        fault("b;a0-b0;a1-b0;z", 12);
    }

    /** Each byte at each place of a maze: it goes on, or is the fault. */
    private static void eachByteOfAMaze() {
        String maze = "b;a0-b0";
        String[] fits = {"bcdefghij", ";", "ab", "0123", "->", "ab", "0123"};
        for (int place = 0; place < maze.length(); place++) {
            for (char b = 0; b < 256; b++) {
                String spoilt = maze.substring(0, place) + b + maze.substring(place + 1);
                int want = fits[place].indexOf(b) >= 0 ? 0 : place == 0 && b == 'a' ? -105 : -100 - place;
                due("byte " + (int) b + " at " + place, Check.maze(new ElevenPebbles(), spoilt), want);
            }
        }
    }

    /** "THE TAPE, which is empty then": behind a fault, too; else nothing is there that was not. */
    private static void aFaultEmptiesTheTapeAlone() {
        ElevenPebbles x = Check.with("b;a0-b0");
        due("a fault", Check.maze(x, "d;a0-d0;d1>b0;a"), -115);
        due("the tape is empty", x.count(3), 0);
        due("one maze", x.count(0), 1);
        due("as it was", x.leads(0, NONE, 0) * 100 + x.leads(0, 0, 0), 210);
        due("the next takes the next number", Check.maze(x, "d;a1-d1"), 1);
        due("nothing of the fault is left", x.leads(1, 0, 0), NONE);
        due("nor here", x.leads(1, 3, 1), 1);
        for (int room = 0; room < 4; room++) {
            x.walker(2, 10 + room, 0);
            due("nor does a door lead on", x.told(room, 7), room % 3 == 0 ? 1 : NONE);
        }
    }

    private static void aMazeIsReadAsBytes() {
        ElevenPebbles x = new ElevenPebbles();
        x.feed(1, 'a' + 256);
        due("256 more is cut off", x.maze(), 0);
        x.feed(1, 'a' - 256);
        due("256 less is cut off", x.maze(), 1);
        x.feed(1, 'a' + 128);
        due("128 more is another byte", x.maze(), -100);
    }

    private static void fault(String maze, int place) {
        ElevenPebbles x = new ElevenPebbles();
        due("maze " + maze, Check.maze(x, maze), -100 - place);
        due("the tape is empty behind " + maze, x.count(3), 0);
        due("no maze came by " + maze, x.count(0), 0);
    }

    // ---- promise 6: "room NONE", "NONE: nowhere. BAD."

    private static void leadsOfEachEnd() {
        ElevenPebbles x = Check.with("j;a0>j3;j3>a0", "a", "a", "b;b3>a3");
        due("the first room's first door", x.leads(0, 0, 0), 93);
        due("the last room's last door", x.leads(0, 9, 3), 0);
        due("nowhere", x.leads(0, 9, 2), NONE);
        due("the last maze", x.leads(3, 1, 3), 3);
        due("how many rooms at most", x.leads(0, NONE, 0), 10);
        due("how many rooms at least", x.leads(1, NONE, 0), 1);
    }

    private static void leadsRefuses() {
        Twin.refused("maze -1", Twin::rich, x -> x.leads(-1, 0, 0), BAD);
        Twin.refused("maze 2 of two", Twin::rich, x -> x.leads(2, 0, 0), BAD);
        Twin.refused("maze 2 of two, room NONE", Twin::rich, x -> x.leads(2, NONE, 0), BAD);
        Twin.refused("maze 4 of four", Twin::full, x -> x.leads(4, 0, 0), BAD);
        Twin.refused("room -2", Twin::rich, x -> x.leads(0, -2, 0), BAD);
        Twin.refused("room 4 of four", Twin::rich, x -> x.leads(0, 4, 0), BAD);
        Twin.refused("room 3 of three", Twin::rich, x -> x.leads(1, 3, 0), BAD);
        Twin.refused("door -1", Twin::rich, x -> x.leads(0, 0, -1), BAD);
        Twin.refused("door 4", Twin::rich, x -> x.leads(0, 0, 4), BAD);
        Twin.refused("a call that asks", Twin::rich, x -> x.leads(0, 0, 0), 10);
        Twin.refused("a call that asks how many", Twin::rich, x -> x.leads(0, NONE, 0), 4);
    }

    // ---- promise 7: "PEBBLES lie in ROOMS of each MAZE (0 .. 99; 0 at first)"

    private static void pebblesOfEachEnd() {
        ElevenPebbles x = Check.with("j", "a", "a", "j");
        for (int room = 0; room < 10; room++) {
            due("0 at first", x.pebbles(3, room, 99), 0);
        }
        due("99 each", x.count(5), 990);
        due("99 lay", x.pebbles(3, 9, 0), 99);
        due("0 lay", x.pebbles(3, 9, 1), 0);
        due("1 lay", x.pebbles(3, 9, 1), 1);
        due("none in another maze", x.pebbles(0, 9, 0), 0);
        for (int room = 0; room < 10; room++) {
            x.pebbles(3, room, 99);
            x.pebbles(0, room, 99);
        }
        x.pebbles(1, 0, 99);
        x.pebbles(2, 0, 99);
        due("99 in all", x.count(5), 22 * 99);
    }

    private static void pebblesRefuses() {
        Twin.refused("n -1", Twin::rich, x -> x.pebbles(0, 0, -1), BAD);
        Twin.refused("n 100", Twin::rich, x -> x.pebbles(0, 0, 100), BAD);
        Twin.refused("n least", Twin::rich, x -> x.pebbles(0, 0, Integer.MIN_VALUE), BAD);
        Twin.refused("n greatest", Twin::rich, x -> x.pebbles(0, 0, Integer.MAX_VALUE), BAD);
        Twin.refused("room -1", Twin::rich, x -> x.pebbles(0, NONE, 1), BAD);
        Twin.refused("room 4 of four", Twin::rich, x -> x.pebbles(0, 4, 1), BAD);
        Twin.refused("maze -1", Twin::rich, x -> x.pebbles(-1, 0, 1), BAD);
        Twin.refused("maze 2 of two", Twin::rich, x -> x.pebbles(2, 0, 1), BAD);
        Twin.refused("maze 4 of four", Twin::full, x -> x.pebbles(4, 0, 1), BAD);
        Twin.changes("n 99", Twin::rich, x -> x.pebbles(0, 3, 99), 7);
        Twin.changes("n 0", Twin::rich, x -> x.pebbles(0, 3, 0), 7);
    }
}
