/** The boundary cases that the document names of WALKERS and their STEPS: promises 8, 9, 11 to 14. */
public final class WalkerBoundsTest {
    private static final int NONE = -1, BAD = -2, FULL = -4, NO_ANSWER = -5;
    private static final int LEAST = Integer.MIN_VALUE, GREATEST = Integer.MAX_VALUE;
    /** Door 0 leads on round four rooms; what is put and taken there comes round late. */
    private static final String FOUR_ROUND = "d;a0>b0;b0>c0;c0>d0;d0>a0";

    public static void main(String[] args) {
        thereAreEightWalkers();
        aNinthWalkerIsFull();
        aWalkerIsBadAheadOfFull();
        kindsAreZeroToFive();
        whereIsARoomThatIsThere();
        whereIsCutTowardZero();
        aNumberIsZeroToNine();
        aBagIsZeroToEleven();
        hasIsCutTowardZero();
        aWalkerAtFirst();
        toldAtItsEnds();
        toldRefuses();
        doorsComeRoundBehindThree();
        goIsModuloFour();
        noDoorIsWanted();
        aDrawsThatWentByAll();
        aShyWhoseDoorDoesNotLeadOn();
        stepsAreOneToAHundred();
        stepRefuses();
        aStepThatStays();
        ninetyNinePebblesAtMost();
        anEmptyBag();
        takeStandsAheadOfPut();
        whatIsNotZeroIsTaken();
        aFullBagTakes();
        goIsAsBehindTakeAndPut();
        wantsIsAsBehindTakeAndPut();
        runsAreZeroToTwoHundred();
        runRefuses();
        ringAtItsEnds();
        ringWithinTwoHundred();
        ringIsWithoutSteps();
        ringTellsRoomsApart();
        ringTellsDoorsByWhichOneCameApart();
        ringTellsDoorsGoneApart();
        ringTellsPebblesApart();
        ringRefuses();
        meetAtItsEnds();
        meetWithinTwoHundred();
        meetRefuses();
        Check.close("WalkerBoundsTest");
    }

    private static void due(String call, long got, long want) {
        Check.due(call, got, want);
    }

    // ---- promise 8: "WALKERS (8 at most, numbered from 0)"

    private static void thereAreEightWalkers() {
        ElevenPebbles x = Check.with("a");
        for (int walker = 0; walker < 8; walker++) {
            due("walker " + walker, x.walker(0, 0, 0), walker);
            due("how many", x.count(1), walker + 1);
        }
        due("a ninth", x.walker(0, 0, 0), FULL);
        due("eight still", x.count(1), 8);
        due("the eighth goes", x.step(7, 1), 0);
        due("the ninth is none", x.step(8, 1), BAD);
    }

    private static void aNinthWalkerIsFull() {
        Twin.refused("a ninth walker", Twin::full, x -> x.walker(3, 1, 100), FULL);
        Twin.changes("a seventh walker", Twin::rich, x -> x.walker(3, 1, 100), 6);
    }

    private static void aWalkerIsBadAheadOfFull() {
        Twin.refused("full: kind 6", Twin::full, x -> x.walker(6, 0, 0), BAD);
        Twin.refused("full: room 2 of two", Twin::full, x -> x.walker(0, 2, 0), BAD);
        Twin.refused("full: maze 4", Twin::full, x -> x.walker(0, 40, 0), BAD);
        Twin.refused("full: bag 12", Twin::full, x -> x.walker(0, 0, 12), BAD);
        Twin.refused("full: number 10", Twin::full, x -> x.walker(0, 0, 1000), BAD);
    }

    private static void kindsAreZeroToFive() {
        for (int kind = 0; kind <= 5; kind++) {
            ElevenPebbles x = Check.with("a");
            due("kind " + kind, x.walker(kind, 0, 0), 0);
            due("kind told " + kind, x.told(0, 0), kind);
        }
        for (int kind : new int[] {-1, 6, LEAST, GREATEST}) {
            Twin.refused("walker: kind " + kind, Twin::rich, x -> x.walker(kind, 0, 0), BAD);
        }
    }

    /** "(where: 10 times MAZE, and ROOM ..)" */
    private static void whereIsARoomThatIsThere() {
        ElevenPebbles x = Check.with("j", "a", "c", "j");
        int[] good = {0, 9, 10, 20, 22, 30, 39};
        for (int k = 0; k < good.length; k++) {
            due("where " + good[k], x.walker(0, good[k], 0), k);
            due("where told " + good[k], 10 * x.told(k, 1) + x.told(k, 2), good[k]);
        }
        for (int where : new int[] {11, 19, 23, 29, 40, 49, 100, 110}) {
            due("where " + where, x.walker(0, where, 0), BAD);
        }
        due("none of them came", x.count(1), good.length);
        Twin.refused("walker: room 4 of four", Twin::rich, y -> y.walker(0, 4, 0), BAD);
        Twin.refused("walker: room 3 of three", Twin::rich, y -> y.walker(0, 13, 0), BAD);
        Twin.refused("walker: maze 2 of two", Twin::rich, y -> y.walker(0, 20, 0), BAD);
    }

    /** "Quotients are cut toward 0": -1 is ROOM -1 of MAZE 0, and no such. */
    private static void whereIsCutTowardZero() {
        for (int where : new int[] {-1, -5, -9, -10, -11, LEAST, LEAST + 1, GREATEST}) {
            Twin.refused("walker: where " + where, Twin::rich, x -> x.walker(0, where, 0), BAD);
        }
    }

    /** "a NUMBER (0 .. 9)" */
    private static void aNumberIsZeroToNine() {
        for (int number = 0; number <= 9; number++) {
            ElevenPebbles x = Check.with("a");
            due("number " + number, x.walker(0, 0, 100 * number), 0);
            due("number told " + number, x.told(0, 4) * 100 + x.told(0, 5), 100 * number);
        }
        for (int has : new int[] {1000, 1001, 1011, 1100, 10000}) {
            Twin.refused("walker: has " + has, Twin::rich, x -> x.walker(0, 0, has), BAD);
        }
    }

    /** "a BAG of pebbles (0 .. 11)" */
    private static void aBagIsZeroToEleven() {
        for (int bag = 0; bag <= 11; bag++) {
            ElevenPebbles x = Check.with("a");
            due("bag " + bag, x.walker(0, 0, 900 + bag), 0);
            due("bag told " + bag, x.told(0, 4) * 100 + x.told(0, 5), 900 + bag);
        }
        for (int has : new int[] {12, 13, 50, 99, 112, 199, 912, 999}) {
            Twin.refused("walker: has " + has, Twin::rich, x -> x.walker(0, 0, has), BAD);
        }
    }

    private static void hasIsCutTowardZero() {
        for (int has : new int[] {-1, -11, -89, -99, -100, -101, -189, LEAST, LEAST + 1, GREATEST}) {
            Twin.refused("walker: has " + has, Twin::rich, x -> x.walker(0, 0, has), BAD);
        }
    }

    /** "the DOOR by which they CAME (0 at first)"; no STEPS, no DOORS gone, behind others who went, too */
    private static void aWalkerAtFirst() {
        ElevenPebbles x = Check.with("b;a0-b3;a1-b2");
        x.walker(2, 0, 5);
        x.step(0, 7);
        x.image();
        x.back();
        due("the second", x.walker(5, 0, 207), 1);
        int[] due = {5, 0, 0, 0, 2, 7, 0, 1, 0};
        for (int what = 0; what < due.length; what++) {
            due("at first told " + what, x.told(1, what), due[what]);
        }
    }

    // ---- promise 9: "-5: none such"

    private static void toldAtItsEnds() {
        ElevenPebbles x = Check.with("a", "a", "a", "j;a0>j3;j0>j0;j1>j1;j2>j2;j3>j3");
        x.walker(5, 30, 911);
        x.step(0, 1);
        int[] due = {5, 3, 9, 3, 9, 10, 1, 3, 0};
        for (int what = 0; what < due.length; what++) {
            due("told " + what, x.told(0, what), due[what]);
        }
        for (int gone = 3; gone >= 0; gone--) {
            due("wants the greatest", x.told(0, 7), gone);
            x.step(0, 1);
            due("doors gone", x.told(0, 8), 16 - (1 << gone));
        }
    }

    private static void toldRefuses() {
        for (int what : new int[] {-1, 9, LEAST, GREATEST}) {
            Twin.refused("told: what " + what, Twin::rich, x -> x.told(0, what), NO_ANSWER);
        }
        for (int walker : new int[] {-1, 6, 8, LEAST, GREATEST}) {
            Twin.refused("told: walker " + walker, Twin::rich, x -> x.told(walker, 0), NO_ANSWER);
        }
        Twin.refused("told: a ninth walker", Twin::full, x -> x.told(8, 0), NO_ANSWER);
        Twin.refused("told: the eighth", Twin::full, x -> x.told(7, 0), 1);
        Twin.refused("told: a call that asks", Twin::rich, x -> x.told(3, 4), 3);
    }

    // ---- WANTS

    /** "from one on round (0 behind 3)": each set of doors, each door by which one came, each kind */
    private static void doorsComeRoundBehindThree() {
        for (int came = 0; came < 4; came++) {
            for (int doors = 0; doors < 16; doors++) {
                ElevenPebbles x = Check.with("b;a0>b" + came + partsOf(doors));
                for (int kind = 0; kind < 6; kind++) {
                    x.walker(kind, 0, 100 * (came + 2));
                    x.step(kind, 1);
                }
                String room = "doors " + doors + ", came by " + came + ": kind ";
                for (int kind = 0; kind < 6; kind++) {
                    due(room + kind, x.told(kind, 7), wanted(kind, came, doors, false));
                }
                x.pebbles(0, 1, 1);
                for (int kind = 0; kind < 6; kind++) {
                    due(room + kind + " with pebbles", x.told(kind, 7), wanted(kind, came, doors, true));
                }
            }
        }
    }

    private static String partsOf(int doors) {
        StringBuilder s = new StringBuilder();
        for (int door = 0; door < 4; door++) {
            s.append((doors >> door & 1) != 0 ? ";b" + door + ">a0" : "");
        }
        return s.toString();
    }

    /** For one who never went on from there, with NUMBER 2 more than CAME, and go 1. */
    private static int wanted(int kind, int came, int doors, boolean pebbles) {
        switch (kind) {
            case 3: return firstOf(doors, pebbles ? came + came + 2 : came + 1);
            case 4: return pebbles && (doors >> came & 1) != 0 ? came : firstOf(doors, 0);
            case 2: return firstOf(doors, 0);
            case 5: return doors == 0 ? NONE : 31 - Integer.numberOfLeadingZeros(doors);
            default: return firstOf(doors, came + 1);
        }
    }

    private static int firstOf(int doors, int from) {
        for (int door = from; door < from + 4; door++) {
            if ((doors >> door % 4 & 1) != 0) {
                return door % 4;
            }
        }
        return NONE;
    }

    /** "modulo 4, not below 0" */
    private static void goIsModuloFour() {
        String[] goes = {"0", "1", "2", "3", "4", "5", "-1", "-2", "-3", "-4", "-5", "9999", "-9999", "8192*8192*32",
            "8192*8192*32-1", "8192*8192*32-2", "8192*8192*32-3", "8192*8192*32+1", "8192*8192*32+2"};
        long[] values = {0, 1, 2, 3, 4, 5, -1, -2, -3, -4, -5, 9999, -9999, LEAST, GREATEST, GREATEST - 1, GREATEST - 2,
            LEAST + 1, LEAST + 2};
        for (int came = 0; came < 4; came++) {
            for (int k = 0; k < goes.length; k++) {
                ElevenPebbles x = Check.with("b;a0>b" + came + ";b0>b0;b1>b0;b2>b0;b3>b0");
                x.walker(0, 0, 0);
                x.step(0, 1);
                Check.text(x, "go " + goes[k] + ";put 0;take 0;");
                x.force(1);
                due("go", x.says(0, 0), values[k]);
                due("came by " + came + ", go " + goes[k], x.told(0, 7), Math.floorMod(came + values[k], 4L));
            }
        }
    }

    /** "NONE, if none leads on" */
    private static void noDoorIsWanted() {
        ElevenPebbles x = Check.with("b;b0>a0;b1>a1;b2>a2;b3>a3");
        for (int kind = 0; kind < 6; kind++) {
            x.walker(kind, 0, 300);
            due("kind " + kind + " wants none", x.told(kind, 7), NONE);
        }
        x.pebbles(0, 0, 1);
        for (int kind = 0; kind < 6; kind++) {
            due("kind " + kind + " wants none, with pebbles", x.told(kind, 7), NONE);
        }
    }

    /** "if there is none, as a WALKER" */
    private static void aDrawsThatWentByAll() {
        int[] kinds = {2, 4, 5};
        for (int kind : kinds) {
            ElevenPebbles x = Check.with("a;a0>a0;a1>a0;a2>a0;a3>a0");
            x.walker(kind, 0, 0);
            for (int k = 0; k < 4; k++) {
                due("kind " + kind + " wants a new one", x.told(0, 7), kind == 5 ? 3 - k : k);
                x.step(0, 1);
            }
            due("it went by all", x.told(0, 8), 15);
            for (int go = 0; go < 4; go++) {
                Check.text(x, "go " + go + ";put 0;take 0;");
                x.force(go + 1);
                due("kind " + kind + " as a WALKER with go " + go, x.told(0, 7), go);
            }
        }
    }

    /** "the DOOR by which it CAME, if that leads on", else as a DRAWS, also with none left to draw */
    private static void aShyWhoseDoorDoesNotLeadOn() {
        ElevenPebbles x = Check.with("a;a0>a2;a1>a2");
        x.walker(4, 0, 0);
        x.pebbles(0, 0, 1);
        due("CAME 0 at first, and 0 leads on", x.told(0, 7), 0);
        x.step(0, 1);
        due("CAME 2 leads nowhere: the least not gone", x.told(0, 7), 1);
        x.step(0, 1);
        due("all gone: from 2 and 1 on", x.told(0, 7), 0);
        x.pebbles(0, 0, 0);
        due("without pebbles likewise", x.told(0, 7), 0);
    }

    // ---- promise 11: "n STEPS (1 .. 100)"

    private static void stepsAreOneToAHundred() {
        ElevenPebbles x = Check.with(FOUR_ROUND);
        x.walker(0, 0, 0);
        due("one", x.step(0, 1), 1);
        due("a hundred", x.step(0, 100), 1);
        due("99", x.step(0, 99), 0);
        due("STEPS", x.told(0, 6), 200);
        Twin.changes("one STEP", Twin::rich, y -> y.step(0, 1), roomBehind(0, 1));
    }

    /** Where a walker of Twin's is behind n STEPS that are really gone. */
    private static int roomBehind(int walker, int n) {
        ElevenPebbles x = new ElevenPebbles();
        Twin.rich(x);
        return x.step(walker, n);
    }

    private static void stepRefuses() {
        for (int n : new int[] {0, -1, 101, 200, LEAST, GREATEST}) {
            Twin.refused("step: n " + n, Twin::rich, x -> x.step(0, n), BAD);
        }
        for (int walker : new int[] {-1, 6, 8, LEAST, GREATEST}) {
            Twin.refused("step: walker " + walker, Twin::rich, x -> x.step(walker, 1), BAD);
        }
        Twin.refused("step: a ninth walker", Twin::full, x -> x.step(8, 1), BAD);
    }

    /** "(if there is none it stays)", "STEPS are 1 more (of going on)"; pebbles are put and taken all the same */
    private static void aStepThatStays() {
        ElevenPebbles x = Check.with("b;a0>b3");
        x.walker(1, 0, 3);
        due("in b", x.step(0, 1), 1);
        due("stays in b", x.step(0, 100), 1);
        due("STEPS", x.told(0, 6), 1);
        due("CAME", x.told(0, 3), 3);
        due("no door gone from b", x.told(0, 8), 0);
        due("one put in each room", x.told(0, 5), 1);
        due("it lies in b", x.pebbles(0, 1, 0), 1);
        due("and in a", x.pebbles(0, 0, 0), 1);
    }

    private static ElevenPebbles oneRoom(String putTake, int bag, int lie) {
        ElevenPebbles x = Check.with("a");
        Check.text(x, "go 0;" + putTake);
        x.force(1);
        x.walker(0, 0, bag);
        x.pebbles(0, 0, lie);
        return x;
    }

    private static void comesTo(String putTake, int bag, int lie, int bagThen, int lieThen) {
        ElevenPebbles x = oneRoom(putTake, bag, lie);
        x.step(0, 1);
        String what = putTake + " with " + bag + ", " + lie + ": ";
        due(what + "bag", x.told(0, 5), bagThen);
        due(what + "lie", x.pebbles(0, 0, 0), lieThen);
        due(what + "all bags", x.count(6), bagThen);
    }

    /** "it lies here (99 at most, else it stays)" */
    private static void ninetyNinePebblesAtMost() {
        comesTo("put 1;take 0;", 2, 97, 1, 98);
        comesTo("put 1;take 0;", 2, 98, 1, 99);
        comesTo("put 1;take 0;", 2, 99, 2, 99);
        comesTo("put 0;take 1;", 2, 99, 3, 98);
        ElevenPebbles x = oneRoom("put 1;take 0;", 11, 95);
        x.step(0, 100);
        due("four of eleven", x.told(0, 5), 7);
        due("99", x.count(5), 99);
    }

    /** "and one is in the BAG", "and a pebble lies here" */
    private static void anEmptyBag() {
        comesTo("put 1;take 0;", 0, 5, 0, 5);
        comesTo("put 1;take 0;", 1, 5, 0, 6);
        comesTo("put 1;take 0;", 1, 0, 0, 1);
        comesTo("put 0;take 1;", 0, 1, 1, 0);
        comesTo("put 0;take 1;", 0, 0, 0, 0);
        comesTo("put 0;take 0;", 1, 1, 1, 1);
    }

    private static void takeStandsAheadOfPut() {
        comesTo("put 1;take 1;", 1, 1, 2, 0);
        comesTo("put 1;take 1;", 1, 99, 2, 98);
        comesTo("put 1;take 1;", 1, 0, 0, 1);
        comesTo("put 1;take 1;", 0, 0, 0, 0);
    }

    private static void whatIsNotZeroIsTaken() {
        comesTo("put 0;take -1;", 0, 3, 1, 2);
        comesTo("put -1;take 0;", 3, 0, 2, 1);
        comesTo("put 0;take 8192*8192*32;", 0, 3, 1, 2);
        comesTo("put 8192*8192*32;take 0;", 3, 0, 2, 1);
        comesTo("put 2;take 8192*8192*64;", 3, 3, 2, 4);
    }

    /** The words of a STEP name an end of what lies (99), and none of a BAG: see NOTES.md, choice 1. */
    private static void aFullBagTakes() {
        comesTo("put 0;take 1;", 10, 1, 11, 0);
        comesTo("put 0;take 1;", 11, 1, 12, 0);
        comesTo("put 1;take 0;", 11, 0, 10, 1);
    }

    /** "(In go as it is behind take, put.)"; told(.., 7) is "by go as it is now" */
    private static void goIsAsBehindTakeAndPut() {
        goes("go pebbles;put 1;take 0;", 1, 0, 0, 1);
        goes("go pebbles;put 0;take 1;", 0, 1, 1, 0);
        goes("go bag;put 1;take 0;", 1, 0, 1, 0);
        goes("go bag;put 0;take 1;", 0, 1, 0, 1);
        goes("go pebbles;put 1;take 0;", 1, 99, 3, 3);
        goes("go pebbles;put 0;take 0;", 1, 2, 2, 2);
    }

    private static void goes(String rule, int bag, int lie, int wants, int by) {
        ElevenPebbles x = Check.with("b;a0>b0;a1>b1;a2>b2;a3>b3");
        Check.text(x, rule);
        x.force(1);
        x.walker(0, 0, bag);
        x.pebbles(0, 0, lie);
        due(rule + " wants as it is now", x.told(0, 7), wants);
        due(rule + " in a run", x.run(0, 1, 0), 1);
        x.step(0, 1);
        due(rule + " goes as it is then", x.told(0, 3), by);
    }

    /** "if pebbles lie here", when it goes on: the last one that it took, or the first one that it put */
    private static void wantsIsAsBehindTakeAndPut() {
        int[] kinds = {3, 4};
        int[] without = {3, 0};
        int[] with = {1, 2};
        for (int k = 0; k < 2; k++) {
            ElevenPebbles x = Check.with("c;a0>b2;b0>c0;b1>c1;b2>c2;b3>c3", "c;a0>b2;b0>c0;b1>c1;b2>c2;b3>c3");
            Check.text(x, "go 0;put pebbles=0;take 0;");
            Check.text(x, "go 0;put 0;take 1;");
            x.walker(kinds[k], 0, 301);
            x.walker(kinds[k], 10, 300);
            x.pebbles(0, 0, 1);
            x.force(1);
            x.step(0, 1);
            x.step(1, 1);
            due("none lies", x.told(0, 7), without[k]);
            x.step(0, 1);
            due("its own lies", x.told(0, 3), with[k]);
            x.pebbles(1, 1, 1);
            due("one lies", x.told(1, 7), with[k]);
            x.force(2);
            x.step(1, 1);
            due("it took the last", x.told(1, 3), without[k]);
        }
    }

    // ---- promise 12: "RUN of so many STEPS (0 .. 200) with nothing changed"

    private static void runsAreZeroToTwoHundred() {
        ElevenPebbles x = Check.with(FOUR_ROUND);
        x.walker(0, 0, 11);
        int[][] due = {{0, 11, 0}, {1, 10, 1}, {3, 7, 199}, {0, 7, 200}};
        int[] n = {0, 1, 199, 200};
        for (int k = 0; k < n.length; k++) {
            for (int what = 0; what < 3; what++) {
                due("run of " + n[k] + ", what " + what, x.run(0, n[k], what), due[k][what]);
            }
        }
        due("STEPS are as they were", x.told(0, 6), 0);
        x.step(0, 100);
        due("STEPS go on from those gone", x.run(0, 200, 2), 300);
    }

    private static void runRefuses() {
        for (int n : new int[] {-1, 201, LEAST, GREATEST}) {
            Twin.refused("run: n " + n, Twin::rich, x -> x.run(0, n, 0), BAD);
        }
        for (int what : new int[] {-1, 3, LEAST, GREATEST}) {
            Twin.refused("run: what " + what, Twin::rich, x -> x.run(0, 1, what), BAD);
            Twin.refused("run of none: what " + what, Twin::rich, x -> x.run(0, 0, what), BAD);
        }
        for (int walker : new int[] {-1, 6, LEAST, GREATEST}) {
            Twin.refused("run: walker " + walker, Twin::rich, x -> x.run(walker, 1, 0), BAD);
        }
        for (int walker = 0; walker < 6; walker++) {
            int one = walker;
            Twin.refused("nothing changes by a run", Twin::rich, x -> x.run(one, 9, 0), roomBehind(one, 9));
        }
    }

    // ---- promise 13: "NONE, if that isn't so within 200 STEPS"

    private static void ringAtItsEnds() {
        ElevenPebbles x = Check.with("a", "a;a0>a0", FOUR_ROUND);
        x.walker(0, 0, 0);
        due("one who stays: FIRST", x.ring(0, 0), 0);
        due("one who stays: ROUND", x.ring(0, 1), 1);
        x.walker(0, 10, 0);
        due("a door is new: FIRST", x.ring(1, 0), 1);
        due("then round in one", x.ring(1, 1), 1);
        x.step(1, 1);
        due("no door is new: FIRST", x.ring(1, 0), 0);
        x.walker(0, 20, 0);
        due("four doors are new", x.ring(2, 0), 4);
        x.step(2, 4);
        due("as at first", x.ring(2, 0), 0);
        due("four round", x.ring(2, 1), 4);
    }

    /** Six pebbles on their way round four rooms; whichever lie, ROUND is 196. */
    private static ElevenPebbles sixOnTheirWay(int bag) {
        ElevenPebbles x = Check.with(FOUR_ROUND);
        Check.text(x, "go 0;put 1;take bag=0;");
        x.force(1);
        x.walker(0, 0, bag);
        x.pebbles(0, 0, 6 - bag);
        return x;
    }

    private static void ringWithinTwoHundred() {
        due("4 and 196 are 200: FIRST", sixOnTheirWay(4).ring(0, 0), 4);
        due("4 and 196 are 200: ROUND", sixOnTheirWay(4).ring(0, 1), 196);
        due("5 and 196 are 201: FIRST", sixOnTheirWay(6).ring(0, 0), NONE);
        due("5 and 196 are 201: ROUND", sixOnTheirWay(6).ring(0, 1), NONE);
        ElevenPebbles x = sixOnTheirWay(6);
        x.step(0, 1);
        due("one STEP on: FIRST", x.ring(0, 0), 4);
        due("one STEP on: ROUND", x.ring(0, 1), 196);
        x.step(0, 4);
        due("five on: FIRST", x.ring(0, 0), 0);
        due("five on: ROUND", x.ring(0, 1), 196);
    }

    /** "(step of THE RULE is 0 in it)": in go, put and take, whatever STEPS are */
    private static void ringIsWithoutSteps() {
        String[] rules = {"go step=3;put 0;take 0;", "go 0;put step=3;take 0;", "go 0;put 0;take step=3;"};
        for (int key = 0; key < 3; key++) {
            ElevenPebbles x = Check.with("a;a0>a0;a1>a0");
            Check.text(x, rules[key]);
            x.force(1);
            x.walker(0, 0, 5);
            x.pebbles(0, 0, 5);
            due(rules[key] + " door 0 is new", x.ring(0, 0), 1);
            x.step(0, 3);
            due("step is 3", x.says(0, key), 1);
            due(rules[key] + " but 0 in it: FIRST", x.ring(0, 0), 0);
            due(rules[key] + " but 0 in it: ROUND", x.ring(0, 1), 1);
            due("step is 3 behind it", x.says(0, key), 1);
        }
        ElevenPebbles y = oneRoom("put 0;take step=0;", 0, 5);
        due("step is 0, and neither 1 nor below 0", y.ring(0, 0), 5);
        y = oneRoom("put 0;take step;", 0, 5);
        due("step is 0: none is taken", y.ring(0, 0), 0);
    }

    // ---- "all is as it was (..) (ROOM, CAME, BAG, PEBBLES of all ROOMS of its MAZE, DOORS by which it went on ..)"

    /** To and fro between a and another room by doors 0: only the ROOM is unlike. */
    private static void ringTellsRoomsApart() {
        for (char other = 'b'; other <= 'i'; other++) {
            ElevenPebbles x = Check.with("j;j0>a0;a0>" + other + "0;" + other + "0>a0");
            x.walker(0, 9, 0);
            x.step(0, 3);
            due("a and " + other + ": FIRST", x.ring(0, 0), 0);
            due("a and " + other + ": ROUND", x.ring(0, 1), 2);
        }
    }

    /** In one room by door 1 and by door 3 in turns: only CAME is unlike. */
    private static void ringTellsDoorsByWhichOneCameApart() {
        for (char room = 'a'; room <= 'j'; room++) {
            for (int came = 0; came < 4; came++) {
                int then = (came + 1) % 4, later = (came + 2) % 4;
                String to = ">" + room;
                ElevenPebbles x = Check.with("j;" + room + then + to + later + ";" + room + ((later + 1) % 4) + to + came);
                x.walker(0, room - 'a', 0);
                x.step(0, 4);
                due(room + " by " + came + " and " + later + ": FIRST", x.ring(0, 0), 0);
                due(room + " by " + came + " and " + later + ": ROUND", x.ring(0, 1), 2);
            }
        }
    }

    /** Ten rooms round, of which the walker went on from nine: only the tenth room's door is new. */
    private static void ringTellsDoorsGoneApart() {
        for (int even = 0; even < 4; even++) {
            for (int odd = 0; odd < 4; odd++) {
                StringBuilder s = new StringBuilder("j");
                for (int room = 0; room < 10; room++) {
                    s.append(';').append((char) ('a' + room)).append(room % 2 == 0 ? even : odd).append('>')
                        .append((char) ('a' + (room + 1) % 10)).append(0);
                }
                for (int room = 0; room < 10; room++) {
                    newDoorIsTold(s.toString(), room);
                }
            }
        }
    }

    private static void newDoorIsTold(String maze, int room) {
        ElevenPebbles x = Check.with(maze);
        x.walker(0, (room + 1) % 10, 0);
        x.step(0, 9);
        due("the door of room " + room + " of " + maze + ": FIRST", x.ring(0, 0), 1);
        due("the door of room " + room + " of " + maze + ": ROUND", x.ring(0, 1), 10);
        x.step(0, 1);
        due("no new door of " + maze, x.ring(0, 0), 0);
    }

    /** One pebble is taken, and put in the next room: round ten rooms it is one room on each 11 STEPS. */
    private static void ringTellsPebblesApart() {
        for (int room = 0; room < 10; room++) {
            ElevenPebbles x = Check.with("j;a0>b0;b0>c0;c0>d0;d0>e0;e0>f0;f0>g0;g0>h0;h0>i0;i0>j0;j0>a0");
            Check.text(x, "go 0;put bag=1;take bag=0;");
            x.force(1);
            x.walker(0, room, 0);
            x.step(0, 10);
            x.pebbles(0, room, 1);
            due("a pebble in room " + room + ": FIRST", x.ring(0, 0), 0);
            due("a pebble in room " + room + ": ROUND", x.ring(0, 1), 110);
        }
    }

    private static void ringRefuses() {
        for (int what : new int[] {-1, 2, LEAST, GREATEST}) {
            Twin.refused("ring: what " + what, Twin::rich, x -> x.ring(0, what), BAD);
            due("BAD stands ahead of NONE", sixOnTheirWay(6).ring(0, what), BAD);
        }
        for (int walker : new int[] {-1, 6, LEAST, GREATEST}) {
            Twin.refused("ring: walker " + walker, Twin::rich, x -> x.ring(walker, 0), BAD);
        }
        Twin.refused("ring: a ninth walker", Twin::full, x -> x.ring(8, 0), BAD);
        Twin.refused("nothing changes by a ring", WalkerBoundsTest::sixAhead, x -> x.ring(0, 1), 196);
        Twin.refused("nothing changes by a ring of NONE", WalkerBoundsTest::sixTooFar, x -> x.ring(0, 1), NONE);
    }

    private static void sixAhead(ElevenPebbles x) {
        Check.maze(x, FOUR_ROUND);
        Check.text(x, "go 0;put 1;take bag=0;");
        x.force(1);
        x.walker(0, 0, 4);
        x.pebbles(0, 0, 2);
        x.image();
    }

    private static void sixTooFar(ElevenPebbles x) {
        Check.maze(x, FOUR_ROUND);
        Check.text(x, "go 0;put 1;take bag=0;");
        x.force(1);
        x.walker(0, 0, 6);
        x.image();
    }

    // ---- promise 14: "(0: they are; NONE: not within 200)"

    private static void meetAtItsEnds() {
        ElevenPebbles x = Check.with("b;a0>b0;b0>a0", "b;a0>b0");
        x.walker(0, 0, 0);
        x.walker(0, 0, 0);
        x.walker(0, 1, 0);
        due("they are in one room", x.meet(0, 1), 0);
        due("the lesser goes to the other", x.meet(0, 2), 1);
        due("told the other way about", x.meet(2, 0), 1);
        x.walker(0, 11, 0);
        x.walker(0, 10, 0);
        due("the lesser stays, then the other comes", x.meet(3, 4), 2);
        due("the lesser is first, told the other way about", x.meet(4, 3), 2);
        x.walker(0, 10, 0);
        due("of two in one room, none has gone", x.meet(5, 4), 0);
    }

    /** One goes round in a till its STEPS are as told, then to b, where the other one stays. */
    private static int meetsAt(int steps, boolean lesserGoes) {
        ElevenPebbles x = Check.with("b;a0>a0;a1>b0");
        Check.text(x, "go step=" + steps + ";put 0;take 0;");
        x.force(1);
        x.walker(0, lesserGoes ? 0 : 1, 0);
        x.walker(0, lesserGoes ? 1 : 0, 0);
        return x.meet(0, 1);
    }

    private static void meetWithinTwoHundred() {
        due("198", meetsAt(98, false), 198);
        due("199", meetsAt(99, true), 199);
        due("200", meetsAt(99, false), 200);
        due("201", meetsAt(100, true), NONE);
        due("202", meetsAt(100, false), NONE);
        due("never", meetsAt(9999, true), NONE);
    }

    /** "BAD: no such ones, alike, of unlike MAZES" */
    private static void meetRefuses() {
        for (int none : new int[] {-1, 6, LEAST, GREATEST}) {
            Twin.refused("meet: a is " + none, Twin::rich, x -> x.meet(none, 0), BAD);
            Twin.refused("meet: b is " + none, Twin::rich, x -> x.meet(0, none), BAD);
            Twin.refused("meet: both are " + none, Twin::rich, x -> x.meet(none, none), BAD);
        }
        Twin.refused("meet: alike", Twin::rich, x -> x.meet(3, 3), BAD);
        Twin.refused("meet: unlike mazes", Twin::rich, x -> x.meet(3, 4), BAD);
        Twin.refused("meet: unlike mazes, rooms of one number", Twin::rich, x -> x.meet(5, 0), BAD);
        Twin.refused("meet: a ninth", Twin::full, x -> x.meet(8, 0), BAD);
        Twin.refused("nothing changes, where they meet", Twin::rich, x -> x.meet(1, 3), metBySteps(1, 3));
        Twin.refused("nothing changes, where they don't", WalkerBoundsTest::neverTogether, x -> x.meet(0, 1), NONE);
    }

    /** Two rooms each, and no way from these to those. */
    private static void neverTogether(ElevenPebbles x) {
        Check.maze(x, "d;a0>b0;b0>a0;c0>d0;d0>c0");
        x.walker(0, 0, 5);
        x.walker(0, 2, 5);
        x.image();
    }

    /** MEET, by STEPS that are really gone. */
    private static int metBySteps(int a, int b) {
        ElevenPebbles x = new ElevenPebbles();
        Twin.rich(x);
        for (int k = 0; k <= 200; k++) {
            if (x.told(a, 2) == x.told(b, 2)) {
                return k;
            }
            x.step(k % 2 == 0 ? a : b, 1);
        }
        return NONE;
    }
}
