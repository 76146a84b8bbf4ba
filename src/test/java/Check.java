import java.nio.charset.StandardCharsets;

/** What the project's tests share: answers compared, tapes fed. */
final class Check {
    private static int wrong = 0;
    private static int made = 0;

    private Check() {
    }

    static void due(String call, long got, long want) {
        made++;
        if (got != want) {
            wrong++;
            if (wrong <= 40) {
                System.out.println(call + " answered " + got + ", due is " + want);
            }
        }
    }

    static void that(String what, boolean holds) {
        due(what, holds ? 1 : 0, 1);
    }

    /** Ends the test's program: exit code 1, if an answer was not as due. */
    static void close(String test) {
        System.out.println(test + ": " + made + " checks, " + wrong + " wrong");
        if (wrong != 0 || made == 0) {
            System.exit(1);
        }
    }

    /** Feeds a text eight bytes at a time; a char is a byte. */
    static ElevenPebbles feed(ElevenPebbles x, String text) {
        byte[] bytes = text.getBytes(StandardCharsets.ISO_8859_1);
        for (int from = 0; from < bytes.length; from += 8) {
            int n = Math.min(8, bytes.length - from);
            x.feed(n, packed(bytes, from, n));
        }
        return x;
    }

    static long packed(byte[] bytes, int from, int n) {
        long packed = 0;
        for (int k = n - 1; k >= 0; k--) {
            packed = packed << 8 | bytes[from + k] & 255;
        }
        return packed;
    }

    static int maze(ElevenPebbles x, String text) {
        return feed(x, text).maze();
    }

    static int text(ElevenPebbles x, String text) {
        return feed(x, text).text();
    }

    /** A new object with these mazes. */
    static ElevenPebbles with(String... mazes) {
        ElevenPebbles x = new ElevenPebbles();
        for (String maze : mazes) {
            that("the maze " + maze + " is read", maze(x, maze) >= 0);
        }
        return x;
    }

    /** A sheet of a sort with these numbers. */
    static void fill(ElevenPebbles x, int sheet, int sort, int... numbers) {
        x.sheet(sheet, sort, numbers.length);
        for (int k = 0; k < numbers.length; k++) {
            x.cell(sheet, k, numbers[k]);
        }
    }
}
