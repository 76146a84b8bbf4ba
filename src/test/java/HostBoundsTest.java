/** The boundary cases that the document names of SHEETS and KINDS, of the host: promises 24 to 28. */
public final class HostBoundsTest {
    private static final int NONE = -1, BAD = -2, NOTHING = -11, OUTSIDE = -12, OTHER_SORT = -13, BELOW_ZERO = -14;
    private static final int LEAST = Integer.MIN_VALUE, GREATEST = Integer.MAX_VALUE;

    public static void main(String[] args) {
        sheetsAreZeroToThree();
        sortsAreZeroToTwo();
        aSheetHasZeroToForty();
        aNewSheetIsAllZero();
        aMissingSheetOfAnySize();
        sheetRefusesInItsOrder();
        cellsAreInside();
        bytesHaveEightBits();
        shortsHaveSixteenBits();
        intsHaveAllBits();
        bytesAndShortsHaveASign();
        cellRefusesInItsOrder();
        copyOfNone();
        copyOfAll();
        copyAsTheyWere();
        copyOfEachSort();
        copyIsInside();
        copyRefusesInItsOrder();
        walkersOfNone();
        walkersOfEight();
        walkersFromTheLastPlace();
        walkersOutside();
        walkersLeftOut();
        walkersOfAFullObject();
        walkersRefuseInTheirOrder();
        takenOfEachKind();
        takenAtItsEnds();
        takenRefusesInItsOrder();
        Check.close("HostBoundsTest");
    }

    private static void due(String call, long got, long want) {
        Check.due(call, got, want);
    }

    // ---- what a SHEET has, told by copies of its numbers: each maze lets one walk alone, of one door

    private static ElevenPebbles reader() {
        return Check.with("a;a0>a0", "a;a1>a0", "a;a2>a0", "a;a3>a0");
    }

    /** The numbers of a sheet, each 0 to 3, as digits (x: none of these). SHEET 3 is used for it. */
    private static String numbersOf(ElevenPebbles x, int sheet, int sort, int n) {
        x.sheet(3, sort, 2);
        StringBuilder s = new StringBuilder();
        for (int i = 0; i < n; i++) {
            int copied = x.copy(sheet, i, 3, 0, 1);
            char digit = 'x';
            for (int door = 0; copied == 1 && door < 4; door++) {
                digit = x.begins(door, 3, 0) == 1 ? (char) ('0' + door) : digit;
            }
            s.append(digit);
        }
        return s.toString();
    }

    private static void has(String call, ElevenPebbles x, int sheet, int sort, String want) {
        String got = numbersOf(x, sheet, sort, want.length());
        Check.that(call + ": " + got + ", due is " + want, got.equals(want));
    }

    // ---- promise 24

    /** "SHEETS 0 .. 3 are rows of numbers, or missing (as all are at first)" */
    private static void sheetsAreZeroToThree() {
        ElevenPebbles x = new ElevenPebbles();
        for (int sheet = 0; sheet < 4; sheet++) {
            due("missing at first: " + sheet, x.cell(sheet, 0, 0), NOTHING);
            due("sheet " + sheet, x.sheet(sheet, 2, 1), 1);
            due("is there", x.cell(sheet, 0, 0), 1);
        }
        for (int sheet : new int[] {-1, 4, LEAST, GREATEST}) {
            Twin.refused("sheet " + sheet, Twin::rich, y -> y.sheet(sheet, 0, 1), BAD);
            Twin.refused("missing sheet " + sheet, Twin::rich, y -> y.sheet(sheet, NONE, 1), BAD);
        }
    }

    private static void sortsAreZeroToTwo() {
        for (int sort = 0; sort < 3; sort++) {
            ElevenPebbles x = Check.with("a");
            due("sort " + sort, x.sheet(0, sort, 3), 1);
            for (int taken = 0; taken < 3; taken++) {
                due("taken for sort " + taken, x.walkers(0, taken, 0, 0), taken == sort ? 0 : OTHER_SORT);
            }
        }
        for (int sort : new int[] {-2, 3, LEAST, GREATEST}) {
            Twin.refused("sheet: sort " + sort, Twin::rich, x -> x.sheet(0, sort, 1), BAD);
        }
    }

    private static void aSheetHasZeroToForty() {
        for (int n = 0; n <= 40; n++) {
            ElevenPebbles x = new ElevenPebbles();
            due("n " + n, x.sheet(0, n % 3, n), 1);
            due("its last item", x.cell(0, n - 1, 1), n == 0 ? OUTSIDE : 1);
            due("behind its last item", x.cell(0, n, 1), OUTSIDE);
        }
        for (int n : new int[] {41, 42, 100, GREATEST}) {
            Twin.refused("sheet: n " + n, Twin::rich, x -> x.sheet(0, 0, n), BAD);
            Twin.refused("a missing sheet: n " + n, Twin::rich, x -> x.sheet(3, 0, n), BAD);
        }
        for (int n : new int[] {-1, -2, -40, LEAST}) {
            Twin.refused("sheet: n " + n, Twin::rich, x -> x.sheet(0, 0, n), BELOW_ZERO);
            Twin.refused("a missing sheet: n " + n, Twin::rich, x -> x.sheet(3, 0, n), BELOW_ZERO);
        }
    }

    /** "a row of n of a sort, all 0": also where a longer one was, of another sort */
    private static void aNewSheetIsAllZero() {
        for (int sort = 0; sort < 3; sort++) {
            ElevenPebbles x = reader();
            x.sheet(0, 2 - sort, 40);
            for (int i = 0; i < 40; i++) {
                x.cell(0, i, 3);
            }
            due("shorter", x.sheet(0, sort, 3), 1);
            has("three of 0", x, 0, sort, "000");
            due("as long as can be", x.sheet(0, sort, 40), 1);
            has("forty of 0", x, 0, sort, "0".repeat(40));
        }
    }

    /** "missing (sort -1: n does not matter)" */
    private static void aMissingSheetOfAnySize() {
        for (int n : new int[] {0, 1, 40, 41, -1, LEAST, GREATEST}) {
            ElevenPebbles x = Check.with("a");
            due("missing before: n " + n, x.sheet(0, NONE, n), 1);
            x.sheet(0, 2, 40);
            due("there before: n " + n, x.sheet(0, NONE, n), 1);
            due("it is missing", x.cell(0, 0, 0), NOTHING);
            due("for all", x.begins(0, 0, 0), NOTHING);
        }
        Twin.changes("a sheet is missing then", Twin::rich, x -> x.sheet(1, NONE, 0), 1);
        Twin.refused("missing, and missing again", Twin::rich, x -> x.sheet(3, NONE, 0), 1);
    }

    /** "BAD: no such SHEET, sort; n above 40; -14." */
    private static void sheetRefusesInItsOrder() {
        Twin.refused("no sheet ahead of -14", Twin::rich, x -> x.sheet(4, 0, -1), BAD);
        Twin.refused("no sort ahead of -14", Twin::rich, x -> x.sheet(0, 3, -1), BAD);
        Twin.refused("no sort below ahead of -14", Twin::rich, x -> x.sheet(0, -2, -1), BAD);
        Twin.changes("a sheet of 0", Twin::rich, x -> x.sheet(0, 0, 0), 1);
        Twin.changes("a sheet of 40", Twin::rich, x -> x.sheet(0, 0, 40), 1);
    }

    // ---- promise 25

    private static void cellsAreInside() {
        ElevenPebbles x = reader();
        x.sheet(0, 0, 40);
        due("the first", x.cell(0, 0, 1), 1);
        due("the last", x.cell(0, 39, 2), 1);
        has("1 .. 2", x, 0, 0, "1" + "0".repeat(38) + "2");
        for (int i : new int[] {-1, -2, 6, 7, 39, 40, 41, LEAST, GREATEST}) {
            Twin.refused("cell: item " + i + " of six", Twin::rich, y -> y.cell(0, i, 1), OUTSIDE);
        }
        Twin.refused("cell: item 40 of 40", Twin::full, y -> y.cell(0, 40, 1), OUTSIDE);
        Twin.changes("cell: item 5 of six", Twin::rich, y -> y.cell(0, 5, 3), 1);
        ElevenPebbles empty = new ElevenPebbles();
        empty.sheet(2, 2, 0);
        due("no item at all", empty.cell(2, 0, 0), OUTSIDE);
    }

    /** "(of bytes, shorts its lowest 8, 16 bits)" */
    private static void bytesHaveEightBits() {
        int[] values = {256, 257, 258, 259, 512, -256, -255, -254, -253, 65539, LEAST + 1, 260, 255, 128, -1, 4};
        tellsCells(0, values, "0123001233" + "1xxxxx");
        values = new int[] {0x7fffff00, 0x7fffff03, 0xffffff02, 0x80};
        tellsCells(0, values, "032x");
    }

    private static void shortsHaveSixteenBits() {
        int[] values = {65536, 65537, 65538, 65539, -65536, -65533, LEAST + 2, 256, 257, 32768, 65535, -1, 4, -256};
        tellsCells(1, values, "0123032" + "xxxxxxx");
    }

    private static void intsHaveAllBits() {
        int[] values = {0, 1, 2, 3, 256, 65536, 65537, LEAST, LEAST + 1, GREATEST, -1, 1 << 24};
        tellsCells(2, values, "0123" + "xxxxxxxx");
    }

    private static void tellsCells(int sort, int[] values, String want) {
        ElevenPebbles x = reader();
        Check.fill(x, 0, sort, values);
        has("numbers of sort " + sort, x, 0, sort, want);
    }

    /** As Java's have: 200 is below 0 as a byte and NUMBER 2 as a short; 33000 is below 0 as a short. */
    private static void bytesAndShortsHaveASign() {
        int[][] due = {{111, 1, 1, 1}, {200, 0, 1, 1}, {128, 0, 0, 0}, {211, 0, 1, 1}, {911, 0, 1, 1}, {-1, 0, 0, 0},
            {256 + 111, 1, 0, 0}, {65536 + 911, 0, 1, 0}, {65536 + 111, 1, 1, 0}, {33000, 0, 0, 0}, {-256, 1, 0, 0}};
        for (int[] row : due) {
            for (int sort = 0; sort < 3; sort++) {
                ElevenPebbles x = Check.with("a");
                Check.fill(x, 0, sort, 0, 0, row[0]);
                due("has " + row[0] + " of sort " + sort, x.walkers(0, sort, 0, 1), row[1 + sort]);
            }
        }
    }

    /** "BAD: no such SHEET; -11; -12." */
    private static void cellRefusesInItsOrder() {
        for (int sheet : new int[] {-1, 4, LEAST, GREATEST}) {
            Twin.refused("cell: sheet " + sheet, Twin::rich, x -> x.cell(sheet, 0, 1), BAD);
            Twin.refused("cell: sheet " + sheet + " ahead of -12", Twin::rich, x -> x.cell(sheet, -1, 1), BAD);
        }
        Twin.refused("cell: missing", Twin::rich, x -> x.cell(3, 0, 1), NOTHING);
        Twin.refused("cell: missing ahead of -12", Twin::rich, x -> x.cell(3, -1, 1), NOTHING);
        Twin.refused("cell: missing ahead of -12", Twin::rich, x -> x.cell(3, 40, 1), NOTHING);
    }

    // ---- promise 26

    private static void copyOfNone() {
        for (int place : new int[] {0, 3, 6}) {
            Twin.refused("none from " + place, Twin::rich, x -> x.copy(0, place, 0, 0, 0), 0);
            Twin.refused("none to " + place, Twin::rich, x -> x.copy(0, 0, 0, place, 0), 0);
        }
        for (int place : new int[] {-1, 7, LEAST, GREATEST}) {
            Twin.refused("none from " + place, Twin::rich, x -> x.copy(0, place, 0, 0, 0), OUTSIDE);
            Twin.refused("none to " + place, Twin::rich, x -> x.copy(0, 0, 0, place, 0), OUTSIDE);
        }
        ElevenPebbles x = new ElevenPebbles();
        x.sheet(0, 1, 0);
        x.sheet(1, 1, 0);
        due("none from none", x.copy(0, 0, 1, 0, 0), 0);
        due("one from none", x.copy(0, 0, 1, 0, 1), OUTSIDE);
    }

    private static void copyOfAll() {
        ElevenPebbles x = reader();
        x.sheet(0, 2, 40);
        x.sheet(1, 2, 40);
        StringBuilder s = new StringBuilder();
        for (int i = 0; i < 40; i++) {
            x.cell(0, i, i % 4);
            s.append(i % 4);
        }
        due("41", x.copy(0, 0, 1, 0, 41), OUTSIDE);
        due("all 40", x.copy(0, 0, 1, 0, 40), 40);
        has("all 40", x, 1, 2, s.toString());
    }

    /** "(as they were)": within one sheet, on and back, over one another */
    private static void copyAsTheyWere() {
        String[] due = {"012333", "001233", "010123", "012012", "012301", "012330"};
        for (int j = 0; j < 6; j++) {
            ElevenPebbles x = reader();
            Check.fill(x, 0, 0, 0, 1, 2, 3, 3, 3);
            int n = 6 - j;
            due("on by " + j, x.copy(0, 0, 0, j, n), n);
            has("on by " + j, x, 0, 0, due[j]);
        }
        String[] back = {"333210", "332100", "321010", "210210", "103210", "033210"};
        for (int i = 0; i < 6; i++) {
            ElevenPebbles x = reader();
            Check.fill(x, 0, 1, 3, 3, 3, 2, 1, 0);
            int n = 6 - i;
            due("back by " + i, x.copy(0, i, 0, 0, n), n);
            has("back by " + i, x, 0, 1, back[i]);
        }
    }

    private static void copyOfEachSort() {
        for (int sort = 0; sort < 3; sort++) {
            ElevenPebbles x = reader();
            Check.fill(x, 0, sort, 1, 2, 3);
            Check.fill(x, 1, sort, 0, 0, 0, 0);
            due("two to the end", x.copy(0, 1, 1, 2, 2), 2);
            has("they came", x, 1, sort, "0023");
            has("and are there still", x, 0, sort, "123");
        }
    }

    /** "-12 (also with n below 0)" */
    private static void copyIsInside() {
        int[][] outside = {{-1, 0, 1}, {0, -1, 1}, {0, 0, 7}, {1, 0, 6}, {6, 0, 1}, {0, 6, 1}, {0, 1, 6}, {5, 0, 2}, {0, 5, 2},
            {0, 0, -1}, {3, 3, -1}, {6, 6, -1}, {0, 0, LEAST}, {0, 0, GREATEST}, {GREATEST, 0, 1}, {0, GREATEST, 1},
            {GREATEST, GREATEST, GREATEST}, {1, 0, GREATEST}, {0, 1, GREATEST}, {LEAST, 0, 1}, {0, LEAST, 1}, {LEAST, LEAST, LEAST},
            {-1, 0, 7}, {0, -1, 0}, {-1, 0, 0}, {7, 0, -1}, {0, 7, -1}};
        for (int[] c : outside) {
            Twin.refused("copy from " + c[0] + " to " + c[1] + ", " + c[2], Twin::rich, x -> x.copy(0, c[0], 0, c[1], c[2]), OUTSIDE);
        }
        ElevenPebbles x = reader();
        x.sheet(0, 0, 3);
        x.sheet(1, 0, 2);
        due("more than the other one has", x.copy(0, 0, 1, 0, 3), OUTSIDE);
        due("more than the one has", x.copy(1, 0, 0, 0, 3), OUTSIDE);
        due("as many as both have", x.copy(0, 1, 1, 0, 2), 2);
        due("back", x.copy(1, 0, 0, 1, 2), 2);
        Twin.changes("copy to the last place", Twin::rich, y -> y.copy(0, 2, 0, 5, 1), 1);
    }

    /** "BAD: no such SHEET; -11; -13: they are of unlike sorts; -12" */
    private static void copyRefusesInItsOrder() {
        for (int sheet : new int[] {-1, 4, LEAST, GREATEST}) {
            Twin.refused("copy: sheet " + sheet, Twin::rich, x -> x.copy(sheet, 0, 0, 0, 1), BAD);
            Twin.refused("copy: other " + sheet, Twin::rich, x -> x.copy(0, 0, sheet, 0, 1), BAD);
            Twin.refused("copy: sheet " + sheet + " ahead of -11", Twin::rich, x -> x.copy(sheet, -1, 3, 0, 1), BAD);
            Twin.refused("copy: other " + sheet + " ahead of -11", Twin::rich, x -> x.copy(3, 0, sheet, 0, -1), BAD);
        }
        Twin.refused("copy: missing", Twin::rich, x -> x.copy(3, 0, 0, 0, 1), NOTHING);
        Twin.refused("copy: the other missing", Twin::rich, x -> x.copy(0, 0, 3, 0, 1), NOTHING);
        Twin.refused("copy: missing both", Twin::rich, x -> x.copy(3, 0, 3, 0, 0), NOTHING);
        Twin.refused("copy: missing ahead of -12", Twin::rich, x -> x.copy(0, -1, 3, 0, -1), NOTHING);
        for (int one = 0; one < 3; one++) {
            int sheet = one, other = (one + 1) % 3;
            Twin.refused("copy: unlike sorts", Twin::rich, x -> x.copy(sheet, 0, other, 0, 1), OTHER_SORT);
            Twin.refused("copy: unlike sorts", Twin::rich, x -> x.copy(other, 0, sheet, 0, 1), OTHER_SORT);
            Twin.refused("copy: unlike sorts, none", Twin::rich, x -> x.copy(sheet, 0, other, 0, 0), OTHER_SORT);
            Twin.refused("copy: unlike sorts ahead of -12", Twin::rich, x -> x.copy(sheet, -1, other, 99, -1), OTHER_SORT);
        }
    }

    // ---- promise 27: "n of them (0 .. 8)"

    private static void walkersOfNone() {
        Twin.refused("walkers: none", Twin::rich, x -> x.walkers(1, 1, 0, 0), 0);
        Twin.refused("walkers: none from the end", Twin::rich, x -> x.walkers(1, 1, 6, 0), 0);
        ElevenPebbles x = Check.with("a");
        x.sheet(0, 0, 0);
        due("none of a sheet of none", x.walkers(0, 0, 0, 0), 0);
        due("one of a sheet of none", x.walkers(0, 0, 0, 1), OUTSIDE);
    }

    private static void walkersOfEight() {
        for (int sort = 0; sort < 3; sort++) {
            ElevenPebbles x = Check.with("j");
            x.sheet(0, sort, 24);
            for (int k = 0; k < 8; k++) {
                x.cell(0, 3 * k, k % 6);
                x.cell(0, 3 * k + 1, k);
                x.cell(0, 3 * k + 2, k);
            }
            due("n 9", x.walkers(0, sort, 0, 9), BAD);
            due("n 8", x.walkers(0, sort, 0, 8), 8);
            for (int k = 0; k < 8; k++) {
                due("kind, room and bag of " + k, x.told(k, 0) * 100 + x.told(k, 2) * 10 + x.told(k, 5), k % 6 * 100 + 11 * k);
            }
            due("no room for one more: left out", x.walkers(0, sort, 0, 8), 0);
        }
    }

    private static void walkersFromTheLastPlace() {
        ElevenPebbles x = Check.with("a");
        x.sheet(0, 2, 40);
        due("the last three", x.walkers(0, 2, 37, 1), 1);
        due("from one behind it", x.walkers(0, 2, 38, 1), OUTSIDE);
        due("the last two", x.walkers(0, 2, 39, 1), OUTSIDE);
        due("from the end", x.walkers(0, 2, 40, 1), OUTSIDE);
        due("one came", x.count(1), 1);
        due("the last six", x.walkers(0, 2, 34, 2), 2);
    }

    /** "-12: what stood ahead came" */
    private static void walkersOutside() {
        for (int from : new int[] {-1, -3, 6, 7, 40, LEAST, GREATEST, GREATEST - 2}) {
            Twin.refused("walkers: from " + from, Twin::rich, x -> x.walkers(1, 1, from, 1), OUTSIDE);
            Twin.refused("walkers: eight from " + from, Twin::rich, x -> x.walkers(1, 1, from, 8), OUTSIDE);
        }
        for (int size = 6; size <= 8; size++) {
            ElevenPebbles x = Check.with("a");
            x.sheet(0, 0, size);
            due("three of " + size, x.walkers(0, 0, 0, 3), OUTSIDE);
            due("two stood ahead and came", x.count(1), 2);
        }
        ElevenPebbles y = Check.with("a");
        Check.fill(y, 0, 2, 9, 0, 0, 5, 0, 911);
        due("one left out, one that came, one outside", y.walkers(0, 2, 0, 3), OUTSIDE);
        due("one came", y.count(1), 1);
        due("it is the LOST", y.told(0, 0), 5);
        Twin.changes("what stood ahead came", Twin::rich, x -> x.walkers(1, 1, 0, 3), OUTSIDE);
    }

    /** "how many came (others are left out)" */
    private static void walkersLeftOut() {
        ElevenPebbles x = Check.with("c");
        Check.fill(x, 0, 2, -1, 0, 0, 6, 0, 0, 0, 3, 0, 0, -1, 0, 0, 0, 12, 0, 0, 1000, 0, 0, -1, 5, 2, 911);
        due("one of eight", x.walkers(0, 2, 0, 8), 1);
        due("it has the first number", x.told(0, 0) * 10 + x.told(0, 2), 52);
        due("none more", x.count(1), 1);
        due("all seven are left out", x.walkers(0, 2, 0, 7), 0);
    }

    private static void walkersOfAFullObject() {
        Twin.refused("walkers: none has room", Twin::full, x -> x.walkers(0, 2, 0, 8), 0);
        Twin.refused("walkers: none has room, then outside", Twin::full, x -> x.walkers(0, 2, 37, 2), OUTSIDE);
        ElevenPebbles x = Check.with("a");
        x.sheet(0, 2, 24);
        for (int k = 0; k < 6; k++) {
            x.walker(0, 0, 0);
        }
        due("room for two of eight", x.walkers(0, 2, 0, 8), 2);
        due("eight", x.count(1), 8);
    }

    /** "BAD: no such SHEET, sort, n; -13; -11; -12": a missing SHEET is of no other sort */
    private static void walkersRefuseInTheirOrder() {
        for (int sheet : new int[] {-1, 4, LEAST, GREATEST}) {
            Twin.refused("walkers: sheet " + sheet, Twin::rich, x -> x.walkers(sheet, 0, 0, 1), BAD);
        }
        for (int sort : new int[] {-1, 3, LEAST, GREATEST}) {
            Twin.refused("walkers: sort " + sort, Twin::rich, x -> x.walkers(1, sort, 0, 1), BAD);
            Twin.refused("walkers: sort " + sort + " of a missing one", Twin::rich, x -> x.walkers(3, sort, 0, 1), BAD);
        }
        for (int n : new int[] {-1, 9, LEAST, GREATEST}) {
            Twin.refused("walkers: n " + n, Twin::rich, x -> x.walkers(1, 1, 0, n), BAD);
            Twin.refused("walkers: n " + n + " ahead of -13", Twin::rich, x -> x.walkers(1, 0, 0, n), BAD);
            Twin.refused("walkers: n " + n + " ahead of -11", Twin::rich, x -> x.walkers(3, 1, 0, n), BAD);
        }
        for (int sort : new int[] {0, 2}) {
            Twin.refused("walkers: another sort", Twin::rich, x -> x.walkers(1, sort, 0, 1), OTHER_SORT);
            Twin.refused("walkers: another sort, none of it", Twin::rich, x -> x.walkers(1, sort, 0, 0), OTHER_SORT);
            Twin.refused("walkers: another sort ahead of -12", Twin::rich, x -> x.walkers(1, sort, -1, 1), OTHER_SORT);
        }
        for (int sort = 0; sort < 3; sort++) {
            int any = sort;
            Twin.refused("walkers: missing", Twin::rich, x -> x.walkers(3, any, 0, 1), NOTHING);
            Twin.refused("walkers: missing, none of it", Twin::rich, x -> x.walkers(3, any, 0, 0), NOTHING);
            Twin.refused("walkers: missing ahead of -12", Twin::rich, x -> x.walkers(3, any, -1, 8), NOTHING);
        }
        Twin.changes("walkers: two", Twin::rich, x -> x.walkers(1, 1, 0, 2), 2);
    }

    // ---- promise 28

    /** "of KIND k (0 .. 5), or one under that one (also by others between)" */
    private static void takenOfEachKind() {
        boolean[][] under = {{true, false, false, false, false, false}, {true, true, false, false, false, false},
            {true, false, true, false, false, false}, {true, true, false, true, false, false},
            {true, false, true, false, true, false}, {true, false, true, false, false, true}};
        ElevenPebbles x = Check.with("a");
        for (int kind = 0; kind < 6; kind++) {
            x.walker(kind, 0, 100 * kind);
            for (int k = 0; k < 6; k++) {
                due("kind " + kind + " taken for " + k, x.taken(kind, k), under[kind][k] ? kind : OTHER_SORT);
            }
        }
    }

    private static void takenAtItsEnds() {
        ElevenPebbles x = Check.with("a");
        for (int walker = 0; walker < 8; walker++) {
            x.walker(5, 0, walker == 7 ? 911 : 0);
        }
        due("NUMBER 0", x.taken(0, 5), 0);
        due("NUMBER 9", x.taken(7, 0), 9);
        due("the ninth", x.taken(8, 0), NOTHING);
    }

    /** "BAD: k; -11: no such WALKER; -13." */
    private static void takenRefusesInItsOrder() {
        for (int k : new int[] {-1, 6, LEAST, GREATEST}) {
            Twin.refused("taken: k " + k, Twin::rich, x -> x.taken(0, k), BAD);
            Twin.refused("taken: k " + k + " ahead of -11", Twin::rich, x -> x.taken(6, k), BAD);
        }
        for (int walker : new int[] {-1, 6, 8, LEAST, GREATEST}) {
            for (int k = 0; k < 6; k++) {
                int kind = k;
                Twin.refused("taken: walker " + walker, Twin::rich, x -> x.taken(walker, kind), NOTHING);
            }
        }
        Twin.refused("taken: another kind", Twin::rich, x -> x.taken(3, 2), OTHER_SORT);
        Twin.refused("taken: nothing changes", Twin::rich, x -> x.taken(3, 1), 3);
    }
}
