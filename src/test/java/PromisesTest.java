/** The promises 1 to 28 one by one: ordinary inputs, the edges that the document names, wrong inputs. */
public final class PromisesTest {
    /** Four rooms round: door 1 leads on to the next one's door 0. */
    private static final String ROUND = "d;a1-b0;b1-c0;c1-d0;d1-a0";
    /** The two doors of a row's rooms; a has only door 1, c only door 0. */
    private static final String ROW = "c;a1-b0;b1-c0";
    private static final int[] WILD = {Integer.MIN_VALUE, -101, -100, -11, -10, -2, 1000, Integer.MAX_VALUE};

    public static void main(String[] args) {
        newObject();
        feed();
        maze();
        mazeFaults();
        text();
        textFaults();
        textOpens();
        textBehindAnother();
        force();
        leads();
        pebbles();
        walker();
        told();
        wants();
        says();
        saysValues();
        step();
        stepPebbles();
        run();
        ring();
        meet();
        alike();
        tells();
        way();
        all();
        free();
        begins();
        imageAndBack();
        count();
        sheet();
        cell();
        copy();
        walkers();
        taken();
        Check.close("PromisesTest");
    }

    private static void due(String call, long got, long want) {
        Check.due(call, got, want);
    }

    // ---- promise 1
    private static void newObject() {
        ElevenPebbles x = new ElevenPebbles();
        int[] counts = {0, 0, 1, 0, 0, 0, 0};
        for (int k = 0; k < counts.length; k++) {
            due("new: count(" + k + ")", x.count(k), counts[k]);
        }
        due("new: leads", x.leads(0, -1, 0), ElevenPebbles.BAD);
        due("new: told", x.told(0, 0), -5);
        due("new: back", x.back(), ElevenPebbles.STATE);
        for (int k = 0; k < 4; k++) {
            due("new: sheets are missing", x.cell(k, 0, 0), -11);
        }
        due("NONE", ElevenPebbles.NONE, -1);
        due("BAD", ElevenPebbles.BAD, -2);
        due("STATE", ElevenPebbles.STATE, -3);
        due("FULL", ElevenPebbles.FULL, -4);
    }

    // ---- promise 2
    private static void feed() {
        ElevenPebbles x = new ElevenPebbles();
        due("feed 0", x.feed(0, 1), ElevenPebbles.BAD);
        due("feed 9", x.feed(9, 1), ElevenPebbles.BAD);
        due("feed -1", x.feed(-1, 1), ElevenPebbles.BAD);
        due("feed least", x.feed(Integer.MIN_VALUE, 1), ElevenPebbles.BAD);
        due("refused: nothing came", x.count(3), 0);
        due("only the lowest", x.feed(1, 0x7777777777777761L), 1);
        due("it was an a", x.maze(), 0);
        due("lowest first", x.feed(2, 0x3b62L), 2);
        due("then behind", x.feed(5, 0x30622d3061L), 7);
        due("b;a0-b0", x.maze(), 1);
        due("b;a0-b0 leads", x.leads(1, 0, 0), 10);
        for (int k = 1; k <= 19; k++) {
            due("feed 8", x.feed(8, -1L), 8 * k);
        }
        due("152 and 7", x.feed(7, 0), 159);
        due("161 are too many", x.feed(2, 0), ElevenPebbles.FULL);
        due("BAD stands ahead of FULL", x.feed(9, 0), ElevenPebbles.BAD);
        due("nothing came", x.count(3), 159);
        due("160", x.feed(1, 0), 160);
        due("161", x.feed(1, 0), ElevenPebbles.FULL);
    }

    // ---- promise 3
    private static void maze() {
        ElevenPebbles x = new ElevenPebbles();
        due("one room", Check.maze(x, "a"), 0);
        due("the tape is empty then", x.count(3), 0);
        due("itself, by - and by >", Check.maze(x, "a;a0-a0;a1>a1"), 1);
        due("one way in, another on", Check.maze(x, "b;a0>b0;b0>a3;a3>a0"), 2);
        due("a0 by -", x.leads(1, 0, 0), 0);
        due("a1 by >", x.leads(1, 0, 1), 1);
        due("a0 leads to b0", x.leads(2, 0, 0), 10);
        due("b0 leads to a3", x.leads(2, 1, 0), 3);
        due("a3 leads to a0", x.leads(2, 0, 3), 0);
        due("ten rooms", Check.maze(x, "j;a0-j3"), 3);
        Check.feed(x, "?");
        due("no fifth", x.maze(), ElevenPebbles.FULL);
        due("the tape stays", x.count(3), 1);
        due("four", x.count(0), 4);
        ElevenPebbles most = new ElevenPebbles();
        StringBuilder s = new StringBuilder("j");
        for (int k = 0; k < 26; k++) {
            s.append(';').append((char) ('a' + k / 4)).append(k % 4).append(">j3");
        }
        due("157 bytes", Check.maze(most, s.toString()), 0);
        due("the last of them", most.leads(0, 6, 1), 93);
        due("none behind", most.leads(0, 6, 2), -1);
    }

    private static void mazeFaults() {
        mazeFault("", 0);
        mazeFault("k", 0);
        mazeFault("A", 0);
        mazeFault("`", 0);
        mazeFault(" a", 0);
        mazeFault("\u00ff", 0);
        mazeFault("a\u00ff", 1);
        mazeFault("a ", 1);
        mazeFault("ab", 1);
        mazeFault("a;", 2);
        mazeFault("a;b0", 2);
        mazeFault("a;A", 2);
        mazeFault("a;a", 3);
        mazeFault("a;a4", 3);
        mazeFault("a;a/", 3);
        mazeFault("a;a0", 4);
        mazeFault("a;a0<a0", 4);
        mazeFault("a;a0-", 5);
        mazeFault("a;a0-b", 5);
        mazeFault("a;a0>b", 5);
        mazeFault("a;a0-a", 6);
        mazeFault("a;a0>a4", 6);
        mazeFault("a;a0>a0;", 8);
        mazeFault("a;a0>a0 ", 7);
        mazeFault("a;a0>a0;a0", 9);
        mazeFault("b;a0-b0;b0>a1", 9);
        mazeFault("b;a0-b0;b1-a0", 12);
        mazeFault("b;a0>b0;b0-a0", 12);
        mazeFault("j;j3-j2;j1-j3x", 12);
        ElevenPebbles x = new ElevenPebbles();
        Check.maze(x, "c;a0>b0;b0>c0;c0>z0");
        due("what was read ahead of a fault is gone", Check.maze(x, "c;c1>a1"), 0);
        for (int room = 0; room < 3; room++) {
            due("no door is left of it", x.leads(0, room, 0), -1);
            due("nor does one lead on", x.walker(1, room, 0), room);
            due("wants none of them", x.told(room, 7), room == 2 ? 1 : -1);
        }
    }

    private static void mazeFault(String maze, int place) {
        ElevenPebbles x = new ElevenPebbles();
        due("maze " + maze, Check.maze(x, maze), -100 - place);
        due("the tape is empty behind a fault", x.count(3), 0);
        due("no maze came", x.count(0), 0);
        due("the next one is read", Check.maze(x, "a"), 0);
    }

    // ---- promise 4
    private static void text() {
        ElevenPebbles x = new ElevenPebbles();
        due("blanks may be missing", Check.text(x, "go1;put0;take0;"), 1);
        due("the tape is empty then", x.count(3), 0);
        due("blanks about all", Check.text(x, " \n go\n1 ;put 0;\n\ntake 0 ; \n"), 2);
        due("all names", Check.text(x, "go came+doors+pebbles+bag+step+number;put 9999;take 0000;"), 3);
        due("words and numbers side by side", Check.text(x, "go 1and2or3;put not1<2;take not not 1=1;"), 4);
        due("a fault takes no number", Check.text(x, "go"), -102);
        due("the sixth", Check.text(x, "go 1;put 0;take 0;"), 5);
        Check.feed(x, "?");
        due("no seventh", x.text(), ElevenPebbles.FULL);
        due("the tape stays", x.count(3), 1);
        due("six", x.count(2), 6);
        StringBuilder s = new StringBuilder("go 1;put 0;take 0");
        for (int k = 0; s.length() < 157; k++) {
            s.append(k % 2 == 0 ? "+1" : "*1");
        }
        s.append(" \n;");
        due("a text as long as the tape", s.length(), 160);
        due("it is read", Check.text(new ElevenPebbles(), s.toString()), 1);
    }

    private static void textFaults() {
        textFault("", 0);
        textFault("  \n", 3);
        textFault("put 1;", 0);
        textFault("go", 2);
        textFault("go ", 3);
        textFault("go;", 2);
        textFault("go 1", 4);
        textFault("go 1  ", 6);
        textFault("go 1;", 5);
        textFault("go 1;go 1;", 5);
        textFault("go 1;take 1;", 5);
        textFault("go 1;put 1;", 11);
        textFault("go 1;put 1;put 1;", 11);
        textFault("go 1;put 1;take 1", 17);
        textFault("go 1;put 1;take 1;;", 18);
        textFault("go 1;put 1;take 1; go", 19);
        textFault("go 1;put 1;take 1; %", 19);
        textFault("gox 1;", 0);
        textFault("Go 1;", 0);
        textFault("go x;", 3);
        textFault("go camel;", 3);
        textFault("go cam;", 3);
        textFault("go lame;", 3);
        textFault("go bagz;", 3);
        textFault("go zbag;", 3);
        textFault("go 1;xut 1;", 5);
        textFault("go 1 bags;", 5);
        textFault("go 12345;", 3);
        textFault("go 00001;", 3);
        textFault("go 1 2;", 5);
        textFault("go 1 12345;", 5);
        textFault("go bag 1;", 7);
        textFault("go go;", 3);
        textFault("go or;", 3);
        textFault("go 1 or;", 7);
        textFault("go 1 and or;", 9);
        textFault("go 1 not 1;", 5);
        textFault("go 1+not 1;", 5);
        textFault("go 1<not 1;", 5);
        textFault("go -not 1;", 4);
        textFault("go 1<2<3;", 6);
        textFault("go 1=2<3;", 6);
        textFault("go (1<2)<3;put 1<2 and 3<4 or 5=6=7;", 33);
        textFault("go +1;", 3);
        textFault("go 1++1;", 5);
        textFault("go 1**1;", 5);
        textFault("go *1;", 3);
        textFault("go ();", 4);
        textFault("go (1;", 5);
        textFault("go (1;)", 5);
        textFault("go 1);", 4);
        textFault("go (1));", 6);
        textFault("go (1", 5);
        textFault("go 1\t;", 4);
        textFault("go 1\r;", 4);
        textFault("go \u00ff;", 3);
        textFault("go 1/2;", 4);
        textFault("go 1>2;", 4);
        textFault(";".repeat(160), 0);
        textFault("go 1" + "+1".repeat(78), 160);
        textFault("go " + "1".repeat(157), 3);
    }

    /** What an elder tape held behind the end of this one is not looked at. */
    private static void textBehindAnother() {
        ElevenPebbles x = new ElevenPebbles();
        due("golf", Check.text(x, "golf"), -100);
        due("go", Check.text(x, "go"), -102);
        due("go 12345", Check.text(x, "go 12345"), -103);
        due("go 1", Check.text(x, "go 1"), -104);
        due("go 1  ;", Check.text(x, "go 1   ;"), -108);
        due("go 1 with blanks behind", Check.text(x, "go 1"), -104);
        due("a maze", Check.maze(x, "b;a0-b0"), 0);
        due("a shorter one", Check.maze(x, "b;a0-"), -105);
    }

    private static void textOpens() {
        textFault("go ((((((1;", 8);
        textFault("go not not not not not not 1;", 23);
        textFault("go ------1;", 8);
        textFault("go (not -(not -1", 14);
        textFault("go not(not(-(1", 12);
        textFault("go 1+2*-(-(-(1));", 12);
        textFits("(((((1)))))");
        textFits("not not not not not 1");
        textFits("-----1");
        textFits("(not -(not 1))");
        textFits("not not not not not 1 or not not not not not 1");
        textFits("not not not not not 1<2 and -----1--1");
        textFits("-----1*-----1");
        textFits("-----1------1");
        textFits("(((((1)))))+(((((1)))))*(((((1)))))");
        textFits("-(-(-1))*-(-(-1))");
        textFits("not(-(-1)+-(-1)<-1)");
        textFault("go not 1+-----1;", 13);
        textFault("go not 1<-----1;", 13);
        textFault("go (1 or -----1);", 13);
    }

    private static void textFits(String e) {
        String text = "go 1;put " + e + ";take 0;";
        due("text " + text, Check.text(new ElevenPebbles(), text), 1);
    }

    private static void textFault(String text, int place) {
        ElevenPebbles x = new ElevenPebbles();
        due("text " + text, Check.text(x, text), -100 - place);
        due("the tape is empty behind a fault", x.count(3), 0);
        due("no text came", x.count(2), 1);
        due("the next one is read", Check.text(x, "go 1;put 1;take 1;"), 1);
    }

    // ---- promise 5
    private static void force() {
        ElevenPebbles x = Check.with(ROUND);
        x.walker(0, 0, 0);
        due("go of TEXT 0", x.says(0, 0), 1);
        Check.text(x, "go 7;put 0;take 0;");
        due("a text that was read is no rule yet", x.says(0, 0), 1);
        due("force 1", x.force(1), 0);
        due("go of TEXT 1", x.says(0, 0), 7);
        due("force 1 again", x.force(1), 1);
        due("force 2", x.force(2), ElevenPebbles.BAD);
        due("force -1", x.force(-1), ElevenPebbles.BAD);
        for (int wild : WILD) {
            due("force " + wild, x.force(wild), ElevenPebbles.BAD);
        }
        due("the rule is as it was", x.count(4), 1);
        due("force 0", x.force(0), 1);
    }

    // ---- promise 6
    private static void leads() {
        ElevenPebbles x = Check.with(ROW, "j;j3>a2");
        due("rooms", x.leads(0, -1, 0), 3);
        due("rooms of the other", x.leads(1, -1, 3), 10);
        due("a1", x.leads(0, 0, 1), 10);
        due("b0", x.leads(0, 1, 0), 1);
        due("b1", x.leads(0, 1, 1), 20);
        due("c0", x.leads(0, 2, 0), 11);
        due("a0", x.leads(0, 0, 0), -1);
        due("j3", x.leads(1, 9, 3), 2);
        due("a2: one comes in alone", x.leads(1, 0, 2), -1);
        due("no room", x.leads(0, 3, 0), ElevenPebbles.BAD);
        due("no door", x.leads(0, 0, 4), ElevenPebbles.BAD);
        due("no door", x.leads(0, 0, -1), ElevenPebbles.BAD);
        due("no maze", x.leads(2, 0, 0), ElevenPebbles.BAD);
        due("no maze", x.leads(-1, -1, 0), ElevenPebbles.BAD);
        for (int wild : WILD) {
            due("maze " + wild, x.leads(wild, 0, 0), ElevenPebbles.BAD);
            due("room " + wild, x.leads(0, wild, 0), ElevenPebbles.BAD);
            due("door " + wild, x.leads(0, 0, wild), ElevenPebbles.BAD);
        }
    }

    // ---- promise 7
    private static void pebbles() {
        ElevenPebbles x = Check.with(ROW, "a");
        due("0 at first", x.pebbles(0, 2, 99), 0);
        due("99 lay", x.pebbles(0, 2, 0), 99);
        due("0 lay", x.pebbles(0, 2, 4), 0);
        due("another room", x.pebbles(0, 1, 1), 0);
        due("another maze", x.pebbles(1, 0, 2), 0);
        due("100", x.pebbles(0, 2, 100), ElevenPebbles.BAD);
        due("-1", x.pebbles(0, 2, -1), ElevenPebbles.BAD);
        due("no room", x.pebbles(0, 3, 1), ElevenPebbles.BAD);
        due("no room", x.pebbles(0, -1, 1), ElevenPebbles.BAD);
        due("no maze", x.pebbles(2, 0, 1), ElevenPebbles.BAD);
        for (int wild : WILD) {
            due("maze " + wild, x.pebbles(wild, 0, 0), ElevenPebbles.BAD);
            due("room " + wild, x.pebbles(0, wild, 0), ElevenPebbles.BAD);
            due("n " + wild, x.pebbles(0, 0, wild), ElevenPebbles.BAD);
        }
        due("all that lie", x.count(5), 7);
    }

    // ---- promise 8
    private static void walker() {
        ElevenPebbles x = Check.with(ROW, "a");
        due("kind 6", x.walker(6, 0, 0), ElevenPebbles.BAD);
        due("kind -1", x.walker(-1, 0, 0), ElevenPebbles.BAD);
        due("room 3 of three", x.walker(0, 3, 0), ElevenPebbles.BAD);
        due("maze 2 of two", x.walker(0, 20, 0), ElevenPebbles.BAD);
        due("room 1 of one", x.walker(0, 11, 0), ElevenPebbles.BAD);
        due("where -1", x.walker(0, -1, 0), ElevenPebbles.BAD);
        due("where -10", x.walker(0, -10, 0), ElevenPebbles.BAD);
        due("bag 12", x.walker(0, 0, 12), ElevenPebbles.BAD);
        due("bag 99", x.walker(0, 0, 99), ElevenPebbles.BAD);
        due("number 10", x.walker(0, 0, 1000), ElevenPebbles.BAD);
        due("has -1", x.walker(0, 0, -1), ElevenPebbles.BAD);
        due("has -100", x.walker(0, 0, -100), ElevenPebbles.BAD);
        for (int wild : WILD) {
            due("kind " + wild, x.walker(wild, 0, 0), ElevenPebbles.BAD);
            due("where " + wild, x.walker(0, wild, 0), ElevenPebbles.BAD);
            due("has " + wild, x.walker(0, 0, wild), ElevenPebbles.BAD);
        }
        due("none came", x.count(1), 0);
        due("the first", x.walker(5, 10, 911), 0);
        int[] due = {5, 1, 0, 0, 9, 11, 0, -1, 0};
        for (int what = 0; what < due.length; what++) {
            due("told " + what, x.told(0, what), due[what]);
        }
        for (int k = 1; k < 8; k++) {
            due("one more", x.walker(k % 6, 2, 0), k);
        }
        due("a ninth", x.walker(0, 0, 0), ElevenPebbles.FULL);
        due("BAD stands ahead of FULL", x.walker(6, 0, 0), ElevenPebbles.BAD);
        due("eight", x.count(1), 8);
    }

    // ---- promise 9
    private static void told() {
        ElevenPebbles x = Check.with("a", ROW);
        x.walker(2, 11, 703);
        int[] first = {2, 1, 1, 0, 7, 3, 0, 0, 0};
        for (int what = 0; what < first.length; what++) {
            due("at first told " + what, x.told(0, what), first[what]);
        }
        due("by b0 to a1", x.step(0, 1), 0);
        int[] then = {2, 1, 0, 1, 7, 2, 1, 1, 0};
        for (int what = 0; what < then.length; what++) {
            due("then told " + what, x.told(0, what), then[what]);
        }
        due("by a1 to b0", x.step(0, 1), 1);
        due("by b0 it went on from here", x.told(0, 8), 1);
        due("wants the door never gone through", x.told(0, 7), 1);
        due("by b1 to c0, back by c0", x.step(0, 2), 1);
        due("by both it went on from here", x.told(0, 8), 3);
        due("none such", x.told(0, 9), -5);
        due("none such", x.told(0, -1), -5);
        due("none such", x.told(1, 0), -5);
        due("none such", x.told(-1, 0), -5);
        for (int wild : WILD) {
            due("walker " + wild, x.told(wild, 0), -5);
            due("what " + wild, x.told(0, wild), -5);
        }
    }

    /** One room, whose doors 0, 1 and 3 lead on; a rule with go n; what each kind wants there. */
    private static void wants() {
        ElevenPebbles x = Check.with("b;a0>b2;a1>b1;a3>b0;b2>a3;b0>a3");
        String[] rules = {"0", "1", "2", "3", "-1", "-2", "-9", "9999*9999*9999", "0-1-9999*9999*9999"};
        for (int k = 0; k < 6; k++) {
            x.walker(k, 0, 300);
        }
        int[] byRule = {0, 1, 3, 3, 3, 3, 3, 3, 0};
        for (int k = 0; k < rules.length; k++) {
            ElevenPebbles y = Check.with("b;a0>b2;a1>b1;a3>b0;b2>a3;b0>a3");
            y.walker(0, 0, 0);
            Check.text(y, "go " + rules[k] + ";put 0;take 0;");
            y.force(1);
            due("a WALKER by go " + rules[k] + " = " + y.says(0, 0), y.told(0, 7), byRule[k]);
        }
        int[] without = {1, 1, 0, 1, 0, 3};
        int[] withPebbles = {1, 1, 0, 3, 0, 3};
        for (int k = 0; k < 6; k++) {
            due("without pebbles kind " + k, x.told(k, 7), without[k]);
        }
        x.pebbles(0, 0, 1);
        for (int k = 0; k < 6; k++) {
            due("with pebbles kind " + k, x.told(k, 7), withPebbles[k]);
        }
        shyWants();
        drawsAllGone();
    }

    private static void shyWants() {
        ElevenPebbles x = Check.with("b;a0>b2;a1>b1;a3>b0;b2>a3;b0>a3;b1>a2");
        x.walker(4, 0, 0);
        due("a0 to b2", x.step(0, 1), 1);
        due("without pebbles: the least", x.told(0, 7), 0);
        x.pebbles(0, 1, 3);
        due("with pebbles: by which it came", x.told(0, 7), 2);
        due("b2 to a3", x.step(0, 1), 0);
        x.pebbles(0, 0, 3);
        due("with pebbles: by which it came, a3", x.told(0, 7), 3);
        x.pebbles(0, 0, 0);
        due("a1 to b1: with pebbles back to a2", x.step(0, 2), 0);
        x.pebbles(0, 0, 3);
        due("door 2 leads nowhere: as a DRAWS, a3", x.told(0, 7), 3);
    }

    private static void drawsAllGone() {
        ElevenPebbles x = Check.with("a;a0-a0;a2>a1");
        x.walker(2, 0, 0);
        x.walker(5, 0, 0);
        due("DRAWS: a0", x.told(0, 7), 0);
        due("LOST: a2", x.told(1, 7), 2);
        x.step(0, 1);
        x.step(1, 1);
        due("DRAWS: a2", x.told(0, 7), 2);
        due("LOST: a0", x.told(1, 7), 0);
        x.step(0, 1);
        x.step(1, 1);
        due("DRAWS went by both, came by 1", x.told(0, 8) * 10 + x.told(0, 3), 51);
        due("LOST went by both, came by 0", x.told(1, 8) * 10 + x.told(1, 3), 50);
        due("DRAWS as a WALKER: from 1 and 1", x.told(0, 7), 2);
        due("LOST as a WALKER: from 0 and 1", x.told(1, 7), 2);
        x.walker(4, 0, 0);
        x.step(2, 2);
        due("SHY went by both, came by 1", x.told(2, 8) * 10 + x.told(2, 3), 51);
        due("SHY as a WALKER: from 1 and 1", x.told(2, 7), 2);
        Check.text(x, "go 3;put 0;take 0;");
        x.force(1);
        for (int walker = 0; walker < 3; walker++) {
            due("by the rule: from CAME and 3", x.told(walker, 7), 0);
        }
    }

    // ---- promise 10
    private static void says() {
        ElevenPebbles x = Check.with(ROW);
        x.walker(1, 1, 504);
        due("go", x.says(0, 0), 1);
        due("put", x.says(0, 1), 1);
        due("take", x.says(0, 2), 0);
        x.pebbles(0, 1, 1);
        due("put, where one lies", x.says(0, 1), 0);
        Check.text(x, "go came*10*1000+doors*1000+pebbles*100+bag*10+step;put number;take -number;");
        x.force(1);
        due("go of all names", x.says(0, 0), 2140);
        due("put", x.says(0, 1), 5);
        due("take", x.says(0, 2), -5);
        due("none such", x.says(0, 3), -1000000);
        due("none such", x.says(0, -1), -1000000);
        due("none such", x.says(1, 0), -1000000);
        for (int wild : WILD) {
            due("walker " + wild, x.says(wild, 0), -1000000);
            due("key " + wild, x.says(0, wild), -1000000);
        }
        x.step(0, 1);
        due("b1 to c0: a pebble came into the bag", x.says(0, 0), 1051);
        x.step(0, 1);
        due("c0 to b1: a pebble was put", x.says(0, 0), 12042);
    }

    private static void saysValues() {
        value("1+2*3", 7);
        value("(1+2)*3", 9);
        value("7-2-1", 4);
        value("2*-3", -6);
        value("--3", 3);
        value("1--3", 4);
        value("-(1+2)", -3);
        value("9999*9999*9999", 9999 * 9999 * 9999);
        value("-9999*9999*9999-9999", -9999 * 9999 * 9999 - 9999);
        value("2<3", 1);
        value("3<2", 0);
        value("3<3", 0);
        value("-1<0", 1);
        value("3=3", 1);
        value("3=4", 0);
        value("1+1=2", 1);
        value("not 0", 1);
        value("not 7", 0);
        value("not not 7", 1);
        value("not 1=2", 1);
        value("not 0<0 and 2", 1);
        value("5 or 0", 1);
        value("0 or 0", 0);
        value("0 or -3", 1);
        value("5 and 3", 1);
        value("5 and 0", 0);
        value("1 or 1 and 0", 1);
        value("(1 or 1) and 0", 0);
        value("not 1 or 1", 1);
        value("not (1 or 1)", 0);
        value("0 and 0 or 1", 1);
        value("0=0=0", -1000000);
        value("(5)", 5);
        value("0012", 12);
        value("1<2 and 2<3 and 3<4", 1);
        value("((((1+1)*2+1)*2+1)*2+1)*2", 46);
        value("1 or 1 and 1 < 1 + 1 * (1 or 1 and 1 < 1 + 1 * (1 or 1 and 1 < 1 + 1 * (1 or 1 and 1 < 1 + 1 * (0))))", 1);
        value("0 or 1 and 1 = 0 + 1 * (0 or 1 and 1 = 0 + 1 * (0 or 1 and 1 = 0 + 1 * (0 or 1 and 1 = 0 + 1 * 2)))", 0);
    }

    /** -1000000 stands for a text with a fault. */
    private static void value(String e, int want) {
        ElevenPebbles x = Check.with("a");
        x.walker(0, 0, 0);
        if (Check.text(x, "go 1;put " + e + ";take 0;") == 1) {
            x.force(1);
            due(e, x.says(0, 1), want);
        } else {
            due(e + " is no text", -1000000, want);
        }
    }

    // ---- promise 11
    private static void step() {
        ElevenPebbles x = Check.with(ROUND, "b;a2>b3");
        x.walker(1, 0, 0);
        due("HAND: a1 to b0", x.step(0, 1), 1);
        due("came by 0", x.told(0, 3), 0);
        due("b1 to c0, c1 to d0, d1 to a0", x.step(0, 3), 0);
        due("four steps", x.told(0, 6), 4);
        due("100 steps", x.step(0, 100), 0);
        due("104 steps", x.told(0, 6), 104);
        due("0 steps", x.step(0, 0), ElevenPebbles.BAD);
        due("101 steps", x.step(0, 101), ElevenPebbles.BAD);
        due("-1 steps", x.step(0, -1), ElevenPebbles.BAD);
        due("no walker", x.step(1, 1), ElevenPebbles.BAD);
        due("no walker", x.step(-1, 1), ElevenPebbles.BAD);
        for (int wild : WILD) {
            due("walker " + wild, x.step(wild, 1), ElevenPebbles.BAD);
            due("n " + wild, x.step(0, wild), ElevenPebbles.BAD);
        }
        due("refused: no step more", x.told(0, 6), 104);
        x.walker(0, 10, 3);
        due("one way: then it stays", x.step(1, 5), 1);
        due("one going on", x.told(1, 6), 1);
        due("came by 3", x.told(1, 3), 3);
        due("wants nothing", x.told(1, 7), -1);
        due("a pebble in each room", x.told(1, 5), 1);
    }

    private static void stepPebbles() {
        ElevenPebbles x = Check.with("a;a0-a0");
        x.walker(0, 0, 5);
        Check.text(x, "go 0;put 1;take 0;");
        Check.text(x, "go 0;put 1;take 1;");
        Check.text(x, "go 0;put 0;take 1;");
        x.force(1);
        x.pebbles(0, 0, 96);
        x.step(0, 10);
        due("99 at most", x.count(5), 99);
        due("the others stay in the bag", x.told(0, 5), 2);
        x.pebbles(0, 0, 0);
        x.step(0, 10);
        due("as many as there were", x.count(5), 2);
        due("none is left", x.told(0, 5), 0);
        x.force(2);
        x.step(0, 1);
        due("take stands ahead of put", x.told(0, 5), 1);
        x.step(0, 2);
        due("taken, then, as none lay, put", x.told(0, 5) * 10 + x.count(5), 11);
        x.force(3);
        x.step(0, 9);
        due("nothing is taken where nothing lies", x.told(0, 5) * 10 + x.count(5), 20);
        goBehindPut();
        takesWithAFullBag();
    }

    /** go and SHY look at the room as it is behind take and put. */
    private static void goBehindPut() {
        ElevenPebbles x = Check.with("b;a0>b0;a1>b1;a2>b2;a3>b3");
        Check.text(x, "go pebbles*2+bag;put 1;take 0;");
        x.force(1);
        x.walker(0, 0, 1);
        due("as it is now: 1", x.told(0, 7), 1);
        x.step(0, 1);
        due("behind the put: 2", x.told(0, 3), 2);
        x.walker(3, 0, 300);
        x.walker(4, 0, 0);
        x.pebbles(0, 0, 0);
        x.step(1, 1);
        due("TOLD without a pebble: 1", x.told(1, 3), 1);
        x.step(2, 1);
        due("SHY without a pebble: the least", x.told(2, 3), 0);
        x.walker(3, 0, 301);
        due("TOLD wants 1 as yet", x.told(3, 7), 1);
        x.step(3, 1);
        due("TOLD behind its own pebble: 3", x.told(3, 3), 3);
    }

    /** The words of a STEP name no end of a bag, so a pebble that lies there is taken. */
    private static void takesWithAFullBag() {
        ElevenPebbles x = Check.with("a");
        Check.text(x, "go 0;put 0;take 1;");
        x.force(1);
        x.walker(0, 0, 11);
        x.pebbles(0, 0, 2);
        x.step(0, 3);
        due("thirteen", x.told(0, 5), 13);
        due("none lies", x.count(5), 0);
    }

    // ---- promise 12
    private static void run() {
        ElevenPebbles x = Check.with(ROUND);
        x.walker(1, 0, 3);
        due("no step", x.run(0, 0, 0), 0);
        due("one step", x.run(0, 1, 0), 1);
        due("one step: bag", x.run(0, 1, 1), 2);
        due("one step: steps", x.run(0, 1, 2), 1);
        due("200 steps", x.run(0, 200, 2), 200);
        due("200 steps: bag", x.run(0, 200, 1), 0);
        due("199 steps", x.run(0, 199, 0), 3);
        due("nothing changed", x.count(5) * 1000 + x.told(0, 2) * 100 + x.told(0, 5) * 10 + x.told(0, 6), 30);
        due("nor the doors gone", x.told(0, 8), 0);
        Check.text(x, "go 0;put step<2;take 0;");
        x.force(1);
        due("step counts in a run", x.run(0, 9, 1), 1);
        due("201 steps", x.run(0, 201, 0), ElevenPebbles.BAD);
        due("-1 steps", x.run(0, -1, 0), ElevenPebbles.BAD);
        due("what 3", x.run(0, 1, 3), ElevenPebbles.BAD);
        due("what -1", x.run(0, 1, -1), ElevenPebbles.BAD);
        due("no walker", x.run(1, 1, 0), ElevenPebbles.BAD);
        for (int wild : WILD) {
            due("walker " + wild, x.run(wild, 1, 0), ElevenPebbles.BAD);
            due("n " + wild, x.run(0, wild, 0), ElevenPebbles.BAD);
            due("what " + wild, x.run(0, 1, wild), ElevenPebbles.BAD);
        }
    }

    // ---- promise 13
    private static void ring() {
        ElevenPebbles x = Check.with(ROUND, "a");
        x.walker(1, 0, 0);
        due("doors gone are noted round once", x.ring(0, 0), 4);
        due("round", x.ring(0, 1), 4);
        x.step(0, 4);
        due("then it goes round from the first", x.ring(0, 0), 0);
        due("round", x.ring(0, 1), 4);
        x.walker(0, 10, 0);
        due("one who stays: from the first", x.ring(1, 0), 0);
        due("one who stays: round in one", x.ring(1, 1), 1);
        x.walker(0, 10, 1);
        due("one who stays puts a pebble first", x.ring(2, 0), 1);
        due("then round in one", x.ring(2, 1), 1);
        due("nothing changed", x.count(5) * 10 + x.told(2, 5), 1);
        due("what 2", x.ring(0, 2), ElevenPebbles.BAD);
        due("what -1", x.ring(0, -1), ElevenPebbles.BAD);
        due("no walker", x.ring(3, 0), ElevenPebbles.BAD);
        for (int wild : WILD) {
            due("walker " + wild, x.ring(wild, 0), ElevenPebbles.BAD);
            due("what " + wild, x.ring(0, wild), ElevenPebbles.BAD);
        }
        Check.text(x, "go step;put step;take 1-step;");
        x.force(1);
        x.step(0, 3);
        x.pebbles(1, 0, 2);
        due("step is 0 in it: two are taken", x.ring(1, 0), 2);
        due("and it is the steps again behind it", x.says(0, 0), 7);
        ringWithoutSteps();
        ringOfEachRoom();
        ringFar();
    }

    private static void ringWithoutSteps() {
        ElevenPebbles x = Check.with("a;a0-a0");
        Check.text(x, "go 0;put 0;take step<2;");
        x.force(1);
        x.walker(0, 0, 0);
        x.pebbles(0, 0, 6);
        due("by its steps two are taken", x.run(0, 9, 1), 2);
        due("in a ring all six", x.ring(0, 0), 6);
        due("round in one", x.ring(0, 1), 1);
    }

    /** Ten rooms round, gone round once: what lies in each room is told from what lay there. */
    private static void ringOfEachRoom() {
        for (int room = 0; room < 10; room++) {
            ElevenPebbles x = Check.with("j;a0>b0;b0>c0;c0>d0;d0>e0;e0>f0;f0>g0;g0>h0;h0>i0;i0>j0;j0>a0");
            Check.text(x, "go 0;put 0;take 0;");
            Check.text(x, "go 0;put bag=1;take bag=0;");
            x.force(1);
            x.walker(0, 0, 0);
            x.step(0, room);
            due("doors gone are new for ten less " + room, x.ring(0, 0), 10 - room);
            x.step(0, 10 - room);
            x.pebbles(0, room, 1);
            x.force(2);
            due("from the first, with a pebble in room " + room, x.ring(0, 0), 0);
            due("ten times eleven: each 11 STEPS it is one room on", x.ring(0, 1), 110);
        }
    }

    /** A walker who stays and takes one pebble a STEP: n pebbles, then round in one. */
    private static void ringFar() {
        ElevenPebbles x = Check.with("b;a0-b0", "j;a0>b0;b0>c0;c0>d0;d0>e0;e0>f0;f0>g0;g0>h0;h0>i0;i0>j0;j0>a0");
        Check.text(x, "go 0;put 0;take 1;");
        x.force(1);
        x.walker(0, 0, 0);
        x.pebbles(0, 0, 99);
        x.pebbles(0, 1, 98);
        due("197 STEPS till all are taken, and the last one is as two ahead", x.ring(0, 0), 197);
        due("round in two", x.ring(0, 1), 2);
        x.pebbles(0, 1, 99);
        due("198 and 2: within 200", x.ring(0, 0), 198);
        x.walker(0, 10, 0);
        for (int room = 0; room < 10; room++) {
            x.pebbles(1, room, 19);
        }
        due("190 and 10: within 200", x.ring(1, 0), 190);
        due("round in ten", x.ring(1, 1), 10);
        x.pebbles(1, 0, 20);
        due("191 and 10: not within 200", x.ring(1, 0), -1);
        due("NONE for both", x.ring(1, 1), -1);
    }

    // ---- promise 14
    private static void meet() {
        ElevenPebbles x = Check.with(ROUND, ROW);
        x.walker(1, 0, 0);
        x.walker(1, 1, 0);
        x.walker(1, 0, 0);
        x.walker(1, 10, 0);
        x.walker(0, 3, 0);
        due("they are in one room", x.meet(0, 2), 0);
        due("the lesser one steps into the other's room", x.meet(0, 1), 1);
        due("the order of the call does not matter", x.meet(1, 0), 1);
        due("one behind the other: c, b, d, c, a, d, b, a ..", x.meet(1, 2), -1);
        due("another one from d: a0 has to be gone", x.meet(2, 4), -1);
        due("alike", x.meet(0, 0), ElevenPebbles.BAD);
        due("unlike mazes", x.meet(0, 3), ElevenPebbles.BAD);
        due("no such", x.meet(0, 5), ElevenPebbles.BAD);
        due("no such", x.meet(-1, 0), ElevenPebbles.BAD);
        due("no such, alike", x.meet(7, 7), ElevenPebbles.BAD);
        for (int wild : WILD) {
            due("a " + wild, x.meet(wild, 0), ElevenPebbles.BAD);
            due("b " + wild, x.meet(0, wild), ElevenPebbles.BAD);
        }
        due("nothing changed", x.told(0, 6) + x.told(1, 6) + x.told(0, 2) + x.count(5), 0);
        meetLate();
    }

    /** Two in a row of rooms: the first stands behind a way alone, the other one walks to it. */
    private static void meetLate() {
        ElevenPebbles x = Check.with("d;d0>c0;c0>b0;b0>a0");
        x.walker(0, 0, 0);
        x.walker(0, 3, 0);
        due("three of its steps are six of both", x.meet(0, 1), 6);
        ElevenPebbles y = Check.with("d;d0>c0;c0>b0;b0>a0");
        y.walker(0, 3, 0);
        y.walker(0, 0, 0);
        due("the other way about: five", y.meet(0, 1), 5);
        meetAtTheEnd();
    }

    /** One stays in b; the other one goes round in a till its steps are as many, then to b. */
    private static void meetAtTheEnd() {
        int[] due = {198, 200, -1};
        for (int k = 0; k < due.length; k++) {
            ElevenPebbles x = Check.with("b;a0>a0;a1>b0");
            Check.text(x, "go step=" + (98 + k) + ";put 0;take 0;");
            x.force(1);
            x.walker(0, 1, 0);
            x.walker(0, 0, 0);
            due("to b with its step " + (99 + k), x.meet(0, 1), due[k]);
        }
    }

    // ---- promise 15
    private static void alike() {
        ElevenPebbles x = Check.with(ROUND, ROW, "j", "e;c0>d0;d0>e0;e0>c1;a0>d0;b0>e0");
        due("all round alike", x.alike(0, -1), 1);
        due("kind of d", x.alike(0, 3), 0);
        due("a row: three kinds", x.alike(1, -1), 3);
        due("kind of c", x.alike(1, 2), 2);
        due("no doors: one kind", x.alike(2, -1), 1);
        due("kind of j", x.alike(2, 9), 0);
        due("three round, two into it", x.alike(3, -1), 3);
        due("a", x.alike(3, 0), 0);
        due("b", x.alike(3, 1), 1);
        due("c is as a: both into d by 0", x.alike(3, 2), 0);
        due("d is as b: both into e by 0", x.alike(3, 3), 1);
        due("e: one comes in by 1", x.alike(3, 4), 4);
        due("no room", x.alike(1, 3), ElevenPebbles.BAD);
        due("no room", x.alike(1, -2), ElevenPebbles.BAD);
        due("no maze", x.alike(4, -1), ElevenPebbles.BAD);
        due("no maze", x.alike(-1, -1), ElevenPebbles.BAD);
        for (int wild : WILD) {
            due("maze " + wild, x.alike(wild, 0), ElevenPebbles.BAD);
            due("room " + wild, x.alike(0, wild), ElevenPebbles.BAD);
        }
    }

    // ---- promise 16
    private static void tells() {
        String far = "j;a0>b0;b0>c0;c0>d0;d0>e0;e0>f0;f0>g0;g0>h0;h0>i0;i0>j0";
        ElevenPebbles x = Check.with(far, "a;a0>a0", ROUND, "d;a2>b0;a3>b0;b1>c0;b0>c0;c0>c0;d2>c0;d3>c0");
        due("unlike doors here", x.tells(0, 9, 0), 0);
        due("unlike doors here: no walk", x.tells(0, 9, 1), 0);
        due("the end of a row parts: 8", x.tells(1, 10, 0), 8);
        due("a walk of eight", x.tells(1, 10, 1), 11111111);
        due("9", x.tells(0, 10, 0), 9);
        due("of nine the first eight", x.tells(0, 10, 1), 11111111);
        due("the order does not matter", x.tells(10, 0, 0), 9);
        due("two of one row: as far as the nearer end", x.tells(3, 5, 0), 4);
        due("their walk", x.tells(3, 5, 1), 1111);
        due("alike: NONE", x.tells(20, 22, 0), -1);
        due("alike: NONE", x.tells(20, 22, 1), -1);
        due("the same: NONE", x.tells(5, 5, 0), -1);
        due("one going on, by the least door that parts", x.tells(30, 33, 0), 1);
        due("door 2", x.tells(30, 33, 1), 3);
        due("what 2", x.tells(0, 0, 2), ElevenPebbles.BAD);
        due("what -1", x.tells(0, 0, -1), ElevenPebbles.BAD);
        due("no room", x.tells(11, 0, 0), ElevenPebbles.BAD);
        due("no room", x.tells(0, 24, 0), ElevenPebbles.BAD);
        due("no maze", x.tells(40, 0, 0), ElevenPebbles.BAD);
        due("no maze", x.tells(0, -1, 0), ElevenPebbles.BAD);
        for (int wild : WILD) {
            due("one " + wild, x.tells(wild, 0, 0), ElevenPebbles.BAD);
            due("other " + wild, x.tells(0, wild, 0), ElevenPebbles.BAD);
            due("what " + wild, x.tells(0, 0, wild), ElevenPebbles.BAD);
        }
        tellsByTheFirstWalk();
    }

    private static void tellsByTheFirstWalk() {
        ElevenPebbles x = Check.with("d;a1>b0;a3>c0;b0>b0;b2>b1;c0>c0;c2>c0;d0>d0", "d;a1>b0;a3>c0;b0>b0;b2>b2;c0>c1;c2>c2");
        due("two goings on part them: 1 and 2, 3 and 0, 3 and 2", x.tells(0, 10, 0), 2);
        due("the first by doors", x.tells(0, 10, 1), 23);
        due("the door by which one came in", x.tells(2, 12, 0), 1);
        due("door 0", x.tells(2, 12, 1), 1);
    }

    // ---- promise 17
    private static void way() {
        ElevenPebbles x = Check.with(ROW, "d;a0>b0;b0>c0;c0>d0;a1>c1", "a");
        due("a to c", x.way(0, 2), 2);
        due("c to a", x.way(0, 20), 2);
        due("b to b", x.way(0, 11), 0);
        due("a to d by the nearer way", x.way(1, 3), 2);
        due("one way alone", x.way(1, 30), -1);
        due("no other room", x.way(0, 3), ElevenPebbles.BAD);
        due("no room", x.way(0, 30), ElevenPebbles.BAD);
        due("rooms -1", x.way(0, -1), ElevenPebbles.BAD);
        due("rooms -10", x.way(0, -10), ElevenPebbles.BAD);
        due("rooms 100", x.way(0, 100), ElevenPebbles.BAD);
        due("no maze", x.way(3, 0), ElevenPebbles.BAD);
        due("no maze", x.way(-1, 0), ElevenPebbles.BAD);
        for (int wild : WILD) {
            due("maze " + wild, x.way(wild, 0), ElevenPebbles.BAD);
            due("rooms " + wild, x.way(0, wild), ElevenPebbles.BAD);
        }
    }

    // ---- promise 18
    private static void all() {
        ElevenPebbles x = Check.with(ROW, "e;a0-b0;a1-c0;a2-d0;a3-e0", "c;a0>b0;a1>c0", "j;a0-b0;b1-c0;c1-d0;d1-e0;e1-f0;f1-g0;g1-h0;h1-i0;i1-j0");
        due("from an end", x.all(0, 0), 2);
        due("from the middle: there and back", x.all(0, 1), 3);
        due("a star from its middle", x.all(1, 0), 7);
        due("a star from a point", x.all(1, 4), 6);
        due("two ways alone", x.all(2, 0), -1);
        due("a row of ten", x.all(3, 0), 9);
        due("a row of ten from e", x.all(3, 4), 13);
        ElevenPebbles y = Check.with("a", "j;a0-b0;a1-c0;a2-d0;b1-e0;b2-f0;c1-g0;c2-h0;d1-i0;d2-j0");
        due("one room", y.all(0, 0), 0);
        due("a tree from its root: 18 less 2", y.all(1, 0), 16);
        due("a tree from a leaf: 18 less 4", y.all(1, 4), 14);
        due("no room", x.all(0, 3), ElevenPebbles.BAD);
        due("no room", x.all(0, -1), ElevenPebbles.BAD);
        due("no maze", x.all(4, 0), ElevenPebbles.BAD);
        due("no maze", x.all(-1, 0), ElevenPebbles.BAD);
        for (int wild : WILD) {
            due("maze " + wild, x.all(wild, 0), ElevenPebbles.BAD);
            due("room " + wild, x.all(0, wild), ElevenPebbles.BAD);
        }
    }

    // ---- promise 19
    private static void free() {
        ElevenPebbles x = Check.with(ROUND, "d;a0>b0;b0-c0;c1>d0", "b", "a");
        due("all four", x.free(0), 15);
        due("a alone: no one comes back there", x.free(1), 1);
        due("none", x.free(2), 0);
        due("one room", x.free(3), 1);
        due("no maze", x.free(4), ElevenPebbles.BAD);
        due("no maze", x.free(-1), ElevenPebbles.BAD);
        for (int wild : WILD) {
            due("maze " + wild, x.free(wild), ElevenPebbles.BAD);
        }
        due("all ten", Check.with("j;a0>b0;b0>c0;c0>d0;d0>e0;e0>f0;f0>g0;g0>h0;h0>i0;i0>j0;j0>a0").free(0), 1023);
    }

    // ---- promise 20
    private static void begins() {
        ElevenPebbles x = Check.with(ROW);
        due("no sheet there", x.begins(0, 0, 0), -11);
        for (int sort = 0; sort < 3; sort++) {
            beginsOf(x, sort);
        }
        Check.fill(x, 0, 2);
        due("a walk of nothing: all", x.begins(0, 0, 0), 7);
        due("a walk of nothing: NONE", x.begins(0, 0, 1), -1);
        Check.fill(x, 0, 2, 1);
        due("odd", x.begins(0, 0, 0), ElevenPebbles.BAD);
        Check.fill(x, 0, 2, 4, 0);
        due("no door", x.begins(0, 0, 0), ElevenPebbles.BAD);
        Check.fill(x, 0, 2, 3, 0, 0, -1);
        due("no door behind the bar", x.begins(0, 0, 1), ElevenPebbles.BAD);
        Check.fill(x, 0, 0, 255, 0);
        due("no door", x.begins(0, 0, 1), ElevenPebbles.BAD);
        Check.fill(x, 0, 0, 257, 256);
        due("bytes keep the lowest 8 bits", x.begins(0, 0, 0), 3);
        due("what stands ahead of -11", x.begins(0, 3, 2), ElevenPebbles.BAD);
        due("no sheet", x.begins(0, 4, 0), ElevenPebbles.BAD);
        due("no sheet", x.begins(0, -1, 0), ElevenPebbles.BAD);
        due("no maze", x.begins(1, 3, 0), ElevenPebbles.BAD);
        for (int wild : WILD) {
            due("maze " + wild, x.begins(wild, 0, 0), ElevenPebbles.BAD);
            due("sheet " + wild, x.begins(0, wild, 0), ElevenPebbles.BAD);
            due("what " + wild, x.begins(0, 0, wild), ElevenPebbles.BAD);
        }
    }

    private static void beginsOf(ElevenPebbles x, int sort) {
        Check.fill(x, 0, sort, 1, 0);
        due("by 1, in by 0: a and b", x.begins(0, 0, 0), 3);
        due("some are left", x.begins(0, 0, 1), -1);
        Check.fill(x, 0, sort, 1, 0, 1, 0);
        due("twice: a", x.begins(0, 0, 0), 1);
        Check.fill(x, 0, sort, 1, 0, 1, 0, 1, 0);
        due("three times: none", x.begins(0, 0, 0), 0);
        due("no door 1 leads on at place 4", x.begins(0, 0, 1), 4);
        Check.fill(x, 0, sort, 1, 0, 0, 0);
        due("back by 0 one comes in by 1", x.begins(0, 0, 1), 3);
        Check.fill(x, 0, sort, 1, 2);
        due("none comes in by 2", x.begins(0, 0, 1), 1);
        Check.fill(x, 0, sort, 3, 3, 3, 3);
        due("none goes by 3", x.begins(0, 0, 1), 0);
    }

    // ---- promises 21 and 22
    private static void imageAndBack() {
        ElevenPebbles x = Check.with(ROUND, "a");
        due("there is none", x.back(), ElevenPebbles.STATE);
        due("an image of no walkers", x.image(), 0);
        due("back", x.back(), 0);
        x.walker(2, 0, 211);
        x.walker(1, 2, 1);
        x.step(0, 2);
        x.pebbles(1, 0, 5);
        due("two", x.image(), 2);
        String then = state(x);
        Check.text(x, "go 2;put 1;take 0;");
        due("a rule", x.force(1), 0);
        x.step(0, 9);
        x.step(1, 3);
        x.pebbles(1, 0, 50);
        x.pebbles(0, 3, 50);
        Check.that("much has changed", !then.equals(state(x)));
        due("one who came since", x.walker(0, 3, 7), 2);
        x.step(2, 2);
        String third = walkerState(x, 2);
        due("back: two are as they were, and one came since", x.back(), 3);
        Check.that("all is as it was", then.equals(state(x)));
        Check.that("who came since stays", third.equals(walkerState(x, 2)));
        due("the text is still there", x.count(2), 2);
        due("three walkers", x.count(1), 3);
        x.step(0, 5);
        due("back once more", x.back(), 3);
        Check.that("the image stays", then.equals(state(x)));
        x.step(0, 1);
        due("a later image", x.image(), 3);
        String later = state(x) + walkerState(x, 2);
        x.step(2, 1);
        x.step(0, 1);
        due("back to it", x.back(), 3);
        Check.that("takes the elder one's place", later.equals(state(x) + walkerState(x, 2)));
        due("one more who came since", x.walker(4, 1, 0), 3);
        due("back: all who are there count", x.back(), x.count(1));
        walkersOfNoneSince();
        mazesSince();
    }

    /** THE IMAGE had none: those that came by walker and by walkers since count in back's answer. */
    private static void walkersOfNoneSince() {
        ElevenPebbles x = Check.with("a");
        x.sheet(0, 1, 3);
        due("an image of none", x.image(), 0);
        due("one by a sheet", x.walkers(0, 1, 0, 1), 1);
        due("back: one", x.back(), 1);
        due("one by a call", x.walker(3, 0, 205), 1);
        due("back: two", x.back(), 2);
        due("as it was made", x.told(1, 5), 5);
        due("none more came", x.count(1), 2);
    }

    /** Words name walkers that came since; of mazes that came since the image keeps nothing, so they stay too. */
    private static void mazesSince() {
        ElevenPebbles x = Check.with("a");
        x.image();
        Check.maze(x, "a");
        x.pebbles(0, 0, 3);
        x.pebbles(1, 0, 4);
        x.back();
        due("pebbles of the maze of then", x.pebbles(0, 0, 0), 0);
        due("pebbles of the maze since", x.pebbles(1, 0, 0), 4);
    }

    private static String state(ElevenPebbles x) {
        StringBuilder s = new StringBuilder();
        for (int room = 0; room < 4; room++) {
            int lie = x.pebbles(0, room, 0);
            x.pebbles(0, room, lie);
            s.append(lie).append(' ');
        }
        s.append(x.count(5)).append(" rule ").append(x.count(4));
        return s.append(walkerState(x, 0)).append(walkerState(x, 1)).toString();
    }

    private static String walkerState(ElevenPebbles x, int walker) {
        StringBuilder s = new StringBuilder(" walker");
        for (int what = 0; what <= 8; what++) {
            s.append(' ').append(what == 7 ? 0 : x.told(walker, what));
        }
        return s.append(' ').append(x.run(walker, 7, 0)).toString();
    }

    // ---- promise 23
    private static void count() {
        ElevenPebbles x = Check.with(ROUND, "a");
        x.walker(0, 0, 11);
        x.walker(0, 10, 4);
        x.pebbles(0, 3, 7);
        x.pebbles(1, 0, 8);
        Check.text(x, "go 1;put 1;take 1;");
        Check.text(x, "go 1;put 1;take 1;");
        x.force(2);
        x.feed(5, 0);
        int[] due = {2, 2, 3, 5, 2, 15, 15};
        for (int what = 0; what < due.length; what++) {
            due("count " + what, x.count(what), due[what]);
        }
        due("count 7", x.count(7), ElevenPebbles.BAD);
        due("count -1", x.count(-1), ElevenPebbles.BAD);
        for (int wild : WILD) {
            due("count " + wild, x.count(wild), ElevenPebbles.BAD);
        }
    }

    // ---- promise 24
    private static void sheet() {
        ElevenPebbles x = Check.with("a;a0-a0");
        due("a sheet of none", x.sheet(3, 0, 0), 1);
        due("it has no item", x.cell(3, 0, 0), -12);
        due("a sheet of 40", x.sheet(3, 2, 40), 1);
        due("the last item", x.cell(3, 39, 3), 1);
        due("behind it", x.cell(3, 40, 3), -12);
        due("door 3 leads nowhere", x.begins(0, 3, 1), 39);
        due("anew", x.sheet(3, 2, 40), 1);
        due("all 0", x.begins(0, 3, 1), -1);
        x.cell(3, 0, 3);
        due("item 0 is 3", x.begins(0, 3, 1), 0);
        x.sheet(3, 2, 40);
        due("item 0 is 0", x.begins(0, 3, 1), -1);
        due("41", x.sheet(3, 2, 41), ElevenPebbles.BAD);
        due("-1", x.sheet(3, 2, -1), -14);
        due("sort 3", x.sheet(3, 3, 1), ElevenPebbles.BAD);
        due("sort 3 stands ahead of -14", x.sheet(3, 3, -1), ElevenPebbles.BAD);
        due("sort -2", x.sheet(3, -2, 1), ElevenPebbles.BAD);
        due("sheet 4", x.sheet(4, 0, -1), ElevenPebbles.BAD);
        due("sheet -1", x.sheet(-1, 0, 1), ElevenPebbles.BAD);
        due("refused: the sheet stays", x.cell(3, 39, 0), 1);
        due("missing: n does not matter", x.sheet(3, -1, 99), 1);
        due("missing", x.cell(3, 0, 0), -11);
        due("missing again, n below 0", x.sheet(3, -1, -99), 1);
        for (int wild : WILD) {
            due("sheet " + wild, x.sheet(wild, 0, 1), ElevenPebbles.BAD);
            due("sort " + wild, x.sheet(0, wild, 1), ElevenPebbles.BAD);
            due("n " + wild, x.sheet(0, 0, wild), wild < 0 ? -14 : ElevenPebbles.BAD);
        }
    }

    // ---- promise 25
    private static void cell() {
        ElevenPebbles x = Check.with("a;a0-a0");
        for (int sort = 0; sort < 3; sort++) {
            x.sheet(sort, sort, 3);
            int wide = sort == 0 ? 8 : sort == 1 ? 16 : 31;
            due("lowest bits", x.cell(sort, 0, sort == 2 ? 5 : 5 + (1 << wide)), 1);
            x.cell(sort, 1, 0);
            x.cell(sort, 2, 0);
            due("kind 5 came", x.walkers(sort, sort, 0, 1), 1);
            due("it is a LOST", x.told(sort, 0), 5);
            x.cell(sort, 0, sort == 2 ? 1 << 16 : (1 << wide) - 1);
            due("the highest bit is a sign", x.walkers(sort, sort, 0, 1), 0);
        }
        x.cell(0, 0, 0);
        x.cell(0, 2, 200);
        due("200 as a byte is below 0", x.walkers(0, 0, 0, 1), 0);
        x.cell(1, 0, 0);
        x.cell(1, 2, 200);
        due("200 as a short is NUMBER 2", x.walkers(1, 1, 0, 1), 1);
        due("it is 2", x.told(3, 4), 2);
        due("item -1", x.cell(0, -1, 0), -12);
        due("item 3", x.cell(0, 3, 0), -12);
        due("missing stands ahead of outside", x.cell(3, -1, 0), -11);
        due("sheet 4", x.cell(4, 0, 0), ElevenPebbles.BAD);
        for (int wild : WILD) {
            due("sheet " + wild, x.cell(wild, 0, 0), ElevenPebbles.BAD);
            due("item " + wild, x.cell(0, wild, 0), -12);
            due("v " + wild, x.cell(0, 0, wild), 1);
        }
    }

    // ---- promise 26
    private static void copy() {
        ElevenPebbles x = Check.with("c;a0>b0;b1>c1;c2>a2;c3>c3");
        Check.fill(x, 0, 0, 0, 0, 1, 1, 2, 2);
        Check.fill(x, 1, 0, 3, 3, 3, 3);
        due("b, c", x.copy(0, 2, 1, 0, 4), 4);
        due("by 1, by 2: from b", x.begins(0, 1, 0), 2);
        due("within itself, on", x.copy(0, 0, 0, 2, 4), 4);
        due("0 0 0 0 1 1: none", x.begins(0, 0, 1), 2);
        due("within itself, back", x.copy(0, 2, 0, 0, 4), 4);
        due("0 0 1 1 1 1: none", x.begins(0, 0, 1), 4);
        due("nothing", x.copy(0, 6, 1, 4, 0), 0);
        due("nothing, but outside", x.copy(0, 7, 1, 0, 0), -12);
        due("nothing, but outside there", x.copy(0, 0, 1, 5, 0), -12);
        due("too many", x.copy(0, 3, 1, 0, 4), -12);
        due("too many there", x.copy(0, 0, 1, 1, 4), -12);
        due("i below 0", x.copy(0, -1, 1, 0, 1), -12);
        due("j below 0", x.copy(0, 0, 1, -1, 1), -12);
        due("n below 0", x.copy(0, 0, 1, 0, -1), -12);
        x.sheet(2, 1, 4);
        due("unlike sorts", x.copy(0, 0, 2, 0, 1), -13);
        due("unlike sorts stand ahead of outside", x.copy(0, 99, 2, 0, -1), -13);
        due("missing stands ahead of all but BAD", x.copy(2, 99, 3, 0, 1), -11);
        due("missing", x.copy(3, 0, 0, 0, 1), -11);
        due("no sheet", x.copy(0, 0, 4, 0, 1), ElevenPebbles.BAD);
        due("no sheet", x.copy(-1, 0, 3, 0, 1), ElevenPebbles.BAD);
        due("refused: 1 1 2 2 is there", x.begins(0, 1, 0), 2);
        for (int wild : WILD) {
            due("sheet " + wild, x.copy(wild, 0, 0, 0, 1), ElevenPebbles.BAD);
            due("other " + wild, x.copy(0, 0, wild, 0, 1), ElevenPebbles.BAD);
            due("i " + wild, x.copy(0, wild, 1, 0, 1), -12);
            due("j " + wild, x.copy(0, 0, 1, wild, 1), -12);
            due("n " + wild, x.copy(0, 1, 1, 1, wild), -12);
        }
    }

    // ---- promise 27
    private static void walkers() {
        ElevenPebbles x = Check.with(ROW);
        Check.fill(x, 0, 2, 9, 1, 0, 511, 2, 1, 100, 6, 0, 0, 3, 2, 911);
        due("from item 1 on: two came, one is left out, one more", x.walkers(0, 2, 1, 4), 3);
        due("HAND in a", x.told(0, 0) * 100 + x.told(0, 2) * 10 + x.told(0, 4), 105);
        due("DRAWS in b", x.told(1, 0) * 100 + x.told(1, 2) * 10 + x.told(1, 4), 211);
        due("TOLD in c", x.told(2, 0) * 100 + x.told(2, 2) * 10 + x.told(2, 5), 331);
        due("none of them", x.walkers(0, 2, 1, 0), 0);
        due("none of them, from anywhere", x.walkers(0, 2, 99, 0), 0);
        due("five: the last lies outside", x.walkers(0, 2, 1, 5), -12);
        due("what stood ahead came", x.count(1), 6);
        due("two of three lie there", x.walkers(0, 2, 11, 1), -12);
        due("from -1", x.walkers(0, 2, -1, 1), -12);
        due("n 9", x.walkers(0, 2, 1, 9), ElevenPebbles.BAD);
        due("n -1", x.walkers(0, 2, 1, -1), ElevenPebbles.BAD);
        due("another sort", x.walkers(0, 1, 1, 1), -13);
        due("another sort stands ahead of outside", x.walkers(0, 0, -5, 1), -13);
        due("no sort", x.walkers(0, 3, 1, 1), ElevenPebbles.BAD);
        due("no sort", x.walkers(1, -1, 1, 1), ElevenPebbles.BAD);
        due("missing", x.walkers(1, 0, 0, 0), -11);
        due("no sheet", x.walkers(4, 0, 0, 0), ElevenPebbles.BAD);
        due("two more, then none has room: left out", x.walkers(0, 2, 1, 4), 2);
        due("eight", x.count(1), 8);
        for (int wild : WILD) {
            due("sheet " + wild, x.walkers(wild, 2, 1, 1), ElevenPebbles.BAD);
            due("sort " + wild, x.walkers(0, wild, 1, 1), ElevenPebbles.BAD);
            due("from " + wild, x.walkers(0, 2, wild, 8), -12);
            due("n " + wild, x.walkers(0, 2, 1, wild), ElevenPebbles.BAD);
        }
    }

    // ---- promise 28
    private static void taken() {
        ElevenPebbles x = Check.with("a");
        String[] under = {"012345", "13", "245", "3", "4", "5"};
        for (int kind = 0; kind < 6; kind++) {
            x.walker(kind, 0, 100 * (kind + 2));
        }
        for (int kind = 0; kind < 6; kind++) {
            for (int k = 0; k < 6; k++) {
                int want = under[k].contains("" + kind) ? kind + 2 : -13;
                due("kind " + kind + " taken for " + k, x.taken(kind, k), want);
            }
        }
        due("no walker", x.taken(6, 0), -11);
        due("no walker", x.taken(-1, 5), -11);
        due("k 6", x.taken(0, 6), ElevenPebbles.BAD);
        due("k -1 stands ahead of no walker", x.taken(9, -1), ElevenPebbles.BAD);
        for (int wild : WILD) {
            due("walker " + wild, x.taken(wild, 0), -11);
            due("k " + wild, x.taken(0, wild), ElevenPebbles.BAD);
        }
    }
}
