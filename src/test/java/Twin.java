import java.util.ArrayList;
import java.util.List;
import java.util.function.Consumer;
import java.util.function.ToIntFunction;

/**
 * Two objects with the same calls behind them, but for one: what that call changed, or did not, is seen in all
 * that is asked of both behind it. The object itself is not looked into.
 */
final class Twin {
    private Twin() {
    }

    /** A call that is refused (or only asks): it answers what is due, and changes nothing. */
    static void refused(String name, Consumer<ElevenPebbles> ahead, ToIntFunction<ElevenPebbles> call, int want) {
        Check.due(name, call.applyAsInt(made(ahead)), want);
        Check.that(name + ": nothing changes", tellsAlike(ahead, call));
    }

    /** The other way about, so that a twin's questions are known to see what a call changes. */
    static void changes(String name, Consumer<ElevenPebbles> ahead, ToIntFunction<ElevenPebbles> call, int want) {
        Check.due(name, call.applyAsInt(made(ahead)), want);
        Check.that(name + ": something changes", !tellsAlike(ahead, call));
    }

    private static boolean tellsAlike(Consumer<ElevenPebbles> ahead, ToIntFunction<ElevenPebbles> call) {
        for (int questions = 0; questions < 4; questions++) {
            ElevenPebbles one = made(ahead);
            ElevenPebbles other = made(ahead);
            call.applyAsInt(one);
            if (!asked(one, questions).equals(asked(other, questions))) {
                return false;
            }
        }
        return true;
    }

    private static ElevenPebbles made(Consumer<ElevenPebbles> ahead) {
        ElevenPebbles x = new ElevenPebbles();
        ahead.accept(x);
        return x;
    }

    /** Questions that change what they look at, so each sort of them has objects of its own. */
    private static List<Integer> asked(ElevenPebbles x, int questions) {
        List<Integer> told = new ArrayList<>();
        switch (questions) {
            case 0:
                askMazes(x, told);
                askWalkers(x, told);
                break;
            case 1:
                askTape(x, told);
                break;
            case 2:
                askSheets(x, told);
                break;
            default:
                told.add(x.back());
                askMazes(x, told);
                askWalkers(x, told);
        }
        return told;
    }

    private static void askMazes(ElevenPebbles x, List<Integer> told) {
        for (int what = 0; what < 7; what++) {
            told.add(x.count(what));
        }
        for (int maze = 0; maze < x.count(0); maze++) {
            for (int room = 0; room < x.leads(maze, -1, 0); room++) {
                for (int door = 0; door < 4; door++) {
                    told.add(x.leads(maze, room, door));
                }
            }
        }
    }

    private static void askWalkers(ElevenPebbles x, List<Integer> told) {
        for (int walker = 0; walker < x.count(1); walker++) {
            for (int what = 0; what < 9; what++) {
                told.add(x.told(walker, what));
            }
            told.add(x.says(walker, 0));
            told.add(x.run(walker, 3, 0));
            told.add(x.run(walker, 8, 0));
            told.add(x.run(walker, 21, 1));
            told.add(x.ring(walker, 0));
        }
        for (int maze = 0; maze < x.count(0); maze++) {
            for (int room = 0; room < x.leads(maze, -1, 0); room++) {
                told.add(x.pebbles(maze, room, 0));
            }
        }
    }

    /** The tape is told by what it is with one byte more, as a text and, behind that, what comes next. */
    private static void askTape(ElevenPebbles x, List<Integer> told) {
        told.add(x.count(3));
        told.add(x.feed(1, ';'));
        int text = x.text();
        told.add(text);
        told.add(x.force(text));
        for (int key = 0; key < 3; key++) {
            told.add(x.says(0, key));
        }
        told.add(x.count(3));
        told.add(x.maze());
        told.add(Check.maze(x, "b;a0-b0"));
        told.add(x.walker(0, 0, 0));
    }

    private static void askSheets(ElevenPebbles x, List<Integer> told) {
        for (int sheet = 0; sheet < 4; sheet++) {
            told.add(x.begins(0, sheet, 0));
            told.add(x.begins(0, sheet, 1));
            for (int sort = 0; sort < 3; sort++) {
                told.add(x.walkers(sheet, sort, 0, 2));
            }
            for (int i = 0; i <= 40; i++) {
                told.add(x.cell(sheet, i, 0));
            }
        }
        for (int walker = 6; walker < x.count(1); walker++) {
            for (int what = 0; what < 9; what++) {
                told.add(x.told(walker, what));
            }
        }
    }

    /** Something of each sort: mazes, walkers that went, a rule, an image that is no longer so, sheets, a tape. */
    static void rich(ElevenPebbles x) {
        Check.maze(x, "d;a0-b0;b1-c0;c1-d0;d1-a1");
        Check.maze(x, "c;a0>b0;a1>c2;b0>a3;c1-c1;c0-c3");
        Check.text(x, "go pebbles+doors-came;put step<5 and pebbles<2;take bag=0 or number=3;");
        for (int kind = 0; kind < 6; kind++) {
            x.walker(kind, kind < 4 ? kind % 3 : 10 + kind % 3, 100 * kind + 2 * kind);
        }
        x.pebbles(0, 1, 4);
        x.step(2, 3);
        x.image();
        x.step(2, 2);
        x.step(5, 3);
        x.step(1, 4);
        x.pebbles(0, 3, 7);
        x.pebbles(1, 2, 1);
        x.force(1);
        Check.fill(x, 0, 0, 0, 0, 1, 0, 1, 0);
        Check.fill(x, 1, 1, 3, 2, 305, 1, 10, 911);
        Check.fill(x, 2, 2, 1, 0, 1, 1, 0, 0);
        Check.feed(x, "go 1;put 2;take 7");
    }

    /** Four mazes, eight walkers, six texts, a tape of 160 bytes, a sheet of 40 numbers. */
    static void full(ElevenPebbles x) {
        for (int maze = 0; maze < 4; maze++) {
            Check.maze(x, "b;a0-b1;a3>b0");
        }
        for (int walker = 0; walker < 8; walker++) {
            x.walker(walker % 6, 10 * (walker % 4), 911);
        }
        for (int text = 1; text < 6; text++) {
            Check.text(x, "go 1;put 0;take 1;");
        }
        x.pebbles(0, 0, 99);
        x.sheet(0, 2, 40);
        Check.feed(x, "go 1;put 0;take 0;" + " ".repeat(142));
    }
}
