import java.lang.management.ManagementFactory;
import java.util.Random;

/** Any arguments in any state: nothing is thrown, like calls have like answers, and calls make nothing. */
public final class WildTest {
    private static final int RUNS = 400, CALLS = 512;
    private static final int[] EDGES = {Integer.MIN_VALUE, Integer.MIN_VALUE + 1, -1000, -101, -100, -41, -40, -14, -11, -10,
        -5, -4, -3, -2, -1, 0, 1, 2, 3, 4, 5, 6, 7, 8, 9, 10, 11, 12, 19, 20, 29, 30, 39, 40, 41, 99, 100, 101, 160, 199,
        200, 201, 255, 256, 511, 911, 999, 1000, 32767, 32768, 65535, 65536, Integer.MAX_VALUE - 2, Integer.MAX_VALUE - 1,
        Integer.MAX_VALUE};
    private static final String[] TAPES = {"d;a0-b0;b1-c0;c1-d0;d1-a1", "j;a0>j3;j3>a0;b0-b1;c2-c2", "a", "c;a0-b1;a2-c3;b3-c0;b0-b2",
        "go pebbles+doors-came;put step<5 and pebbles<2;take bag=0 or number=3;", "go -((((1", "go 1;put not not not not not 1;take 1;", "b;a0-"};

    public static void main(String[] args) {
        for (int seed = 0; seed < RUNS; seed++) {
            play(seed);
        }
        makesLittle();
        Check.close("WildTest");
    }

    private static void play(int seed) {
        Random random = new Random(seed);
        ElevenPebbles one = new ElevenPebbles(), other = new ElevenPebbles();
        for (int k = 0; k < CALLS; k++) {
            int what = random.nextInt(32);
            int[] a = {any(random), any(random), any(random), any(random), any(random)};
            long bytes = random.nextLong();
            try {
                Check.due("call " + what + " of run " + seed, call(one, what, a, bytes), call(other, what, a, bytes));
            } catch (RuntimeException | StackOverflowError thrown) {
                Check.that("call " + what + " of run " + seed + " threw " + thrown, false);
            }
        }
    }

    private static int any(Random random) {
        return random.nextInt(3) == 0 ? EDGES[random.nextInt(EDGES.length)]
            : random.nextInt(20) == 0 ? random.nextInt() : random.nextInt(random.nextBoolean() ? 4 : 45);
    }

    private static int call(ElevenPebbles x, int what, int[] a, long bytes) {
        switch (what) {
            case 0: return x.feed(a[0], bytes);
            case 1: return x.maze();
            case 2: return x.text();
            case 3: return x.force(a[0]);
            case 4: return x.leads(a[0], a[1], a[2]);
            case 5: return x.pebbles(a[0], a[1], a[2]);
            case 6: return x.walker(a[0], a[1], a[2]);
            case 7: return x.told(a[0], a[1]);
            case 8: return x.says(a[0], a[1]);
            case 9: return x.step(a[0], a[1]);
            case 10: return x.run(a[0], a[1], a[2]);
            case 11: return x.ring(a[0], a[1]);
            case 12: return x.meet(a[0], a[1]);
            case 13: return x.alike(a[0], a[1]);
            case 14: return x.tells(a[0], a[1], a[2]);
            case 15: return x.way(a[0], a[1]);
            case 16: return x.all(a[0], a[1]);
            case 17: return x.free(a[0]);
            case 18: return x.begins(a[0], a[1], a[2]);
            case 19: return x.image();
            case 20: return x.back();
            case 21: return x.count(a[0]);
            case 22: return x.sheet(a[0], a[1], a[2]);
            case 23: return x.cell(a[0], a[1], a[2]);
            case 24: return x.copy(a[0], a[1], a[2], a[3], a[4]);
            case 25: return x.walkers(a[0], a[1], a[2], a[3]);
            case 26: return x.taken(a[0], a[1]);
            default:
                Check.feed(x, TAPES[(int) (bytes & 7)]);
                return (bytes & 4) == 0 ? x.maze() : x.text();
        }
    }

    /** All calls of a run live in one room: rows are made with the object, and used again. */
    private static void makesLittle() {
        var threads = (com.sun.management.ThreadMXBean) ManagementFactory.getThreadMXBean();
        long self = Thread.currentThread().getId();
        dearCalls(new ElevenPebbles(), 1);
        long start = threads.getThreadAllocatedBytes(self);
        ElevenPebbles x = new ElevenPebbles();
        long made = threads.getThreadAllocatedBytes(self);
        Check.that("an object has some " + (made - start) + " bytes, fewer than 80000", made - start < 80000);
        dearCalls(x, 1);
        long first = threads.getThreadAllocatedBytes(self);
        dearCalls(x, 40);
        long last = threads.getThreadAllocatedBytes(self);
        Check.that("calls make nothing: " + (last - first) + " bytes", last - first < 4096);
    }

    private static void dearCalls(ElevenPebbles x, int times) {
        for (int k = 0; k < times; k++) {
            for (int from = 0; x.count(0) < 4 && from < 1; from++) {
                x.feed(7, 0x30622d30613b62L);
                x.maze();
            }
            x.walker(0, 0, 5);
            x.walker(2, 1, 5);
            x.sheet(0, 2, 40);
            x.cell(0, 3, 1);
            x.copy(0, 0, 0, 3, 20);
            x.walkers(0, 2, 0, 8);
            x.step(0, 100);
            x.run(0, 200, 0);
            x.ring(1, 0);
            x.meet(0, 1);
            x.alike(0, -1);
            x.tells(0, 1, 1);
            x.way(0, 1);
            x.all(0, 0);
            x.free(0);
            x.begins(0, 0, 1);
            x.image();
            x.back();
            x.text();
        }
    }
}
