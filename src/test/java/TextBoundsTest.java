/** The boundary cases that the document names of TEXTS and THE RULE: promises 4, 5 and 10. */
public final class TextBoundsTest {
    private static final int BAD = -2, FULL = -4, NO_SAYING = -1000000;
    private static final String LEAST = "go 1;put 0;take 0;";

    public static void main(String[] args) {
        thereAreSixTexts();
        aSeventhTextLeavesTheTape();
        aTextThatIsFullIsNotLookedAt();
        aTextOfTheWholeTape();
        aTextThatEndsTooEarly();
        aTextIsGoPutTake();
        aNumberHasFourDigits();
        tokensAreAsLongAsCanBe();
        aWordIsAKeyOrAName();
        aKeyStandsWhereItMay();
        blanksAre32And10();
        eachByteThatBeginsNoToken();
        aComparisonIsOfTwoSums();
        aNotIsNoPartOfASum();
        bracketsMatch();
        fiveMayBeOpen();
        fiveMayBeOpenMixed();
        whatHasEndedIsOpenNoMore();
        whatHasNotEndedIsOpenStill();
        aMinusBetweenTermsOpensNothing();
        anOpenTooManyIsTheFaultAheadOfLaterOnes();
        ofTwoFaultsTheFirst();
        aFaultEmptiesTheTapeAlone();
        anEWrapsAt32Bits();
        comparisonsDoNotWrap();
        whatIsNotZeroIsTrue();
        saysRefuses();
        namesAtTheirEnds();
        forceTakesTextsThatAreThere();
        forceRefuses();
        textZeroIsAsTold();
        Check.close("TextBoundsTest");
    }

    private static void due(String call, long got, long want) {
        Check.due(call, got, want);
    }

    // ---- "There are 6 TEXTS at most, TEXT 0 with them."

    private static void thereAreSixTexts() {
        ElevenPebbles x = new ElevenPebbles();
        due("TEXT 0 is there", x.count(2), 1);
        for (int text = 1; text < 6; text++) {
            due("text " + text, Check.text(x, LEAST), text);
            due("how many", x.count(2), text + 1);
        }
        due("a seventh", Check.text(x, LEAST), FULL);
        due("six still", x.count(2), 6);
    }

    private static ElevenPebbles withSixTexts() {
        ElevenPebbles x = new ElevenPebbles();
        for (int text = 1; text < 6; text++) {
            Check.text(x, LEAST);
        }
        return x;
    }

    /** "(THE TAPE stays)": what was fed for a text is a maze yet. */
    private static void aSeventhTextLeavesTheTape() {
        ElevenPebbles x = withSixTexts();
        Check.feed(x, "b;a0-b0");
        due("full", x.text(), FULL);
        due("all bytes stay", x.count(3), 7);
        due("and they are the same", x.maze(), 0);
        due("a0", x.leads(0, 0, 0), 10);
        Twin.refused("text of a full object", Twin::full, ElevenPebbles::text, FULL);
    }

    /** FULL, whatever THE TAPE has: a fault, nothing at all. */
    private static void aTextThatIsFullIsNotLookedAt() {
        for (String tape : new String[] {"", "go", "%", LEAST}) {
            ElevenPebbles x = withSixTexts();
            Check.feed(x, tape);
            due("full with " + tape, x.text(), FULL);
            due("the tape stays", x.count(3), tape.length());
        }
    }

    /** "THE TAPE (160 bytes at most)" */
    private static void aTextOfTheWholeTape() {
        String blanks = " ".repeat(142);
        due("blanks behind", Check.text(new ElevenPebbles(), LEAST + blanks), 1);
        due("blanks ahead", Check.text(new ElevenPebbles(), blanks + LEAST), 1);
        String sum = "go 1;put 0;take 1" + "+1".repeat(71);
        due("159 bytes and a ;", sum.length(), 159);
        ElevenPebbles x = Check.with("a");
        x.walker(0, 0, 0);
        due("a long sum", Check.text(x, sum + ";"), 1);
        x.force(1);
        due("72 ones", x.says(0, 2), 72);
        fault(sum + "1", 160);
        fault(sum + "+", 160);
        fault(sum + ")", 159);
        fault(" ".repeat(160), 160);
        fault(" ".repeat(159) + "%", 159);
        fault("%" + " ".repeat(159), 0);
        fault(";".repeat(160), 0);
        fault("go 1" + "*1".repeat(78), 160);
        fault("go 1" + "*1".repeat(77) + "*(", 160);
        fault(blanks.substring(1) + "go 1;put 0;take 0;;", 159);
    }

    /** "the text's size, if it ends too early" */
    private static void aTextThatEndsTooEarly() {
        String[] tokens = {"go", " 1", ";", "put", " (", "not", " bag", "<", "-", "2", ")", ";", "take", " 0"};
        StringBuilder s = new StringBuilder();
        for (String token : tokens) {
            fault(s.toString(), s.length());
            fault(s + " \n", s.length() + 2);
            s.append(token);
        }
        fault(s.toString(), s.length());
        due("with its last ;", Check.text(new ElevenPebbles(), s + ";"), 1);
    }

    private static void aTextIsGoPutTake() {
        fault("put 0;", 0);
        fault("take 0;", 0);
        fault("1;", 0);
        fault(";", 0);
        fault("go 1;take 0;", 5);
        fault("go 1;put 0;go", 11);
        fault(LEAST + ";", 18);
        fault(LEAST + "go", 18);
        fault(LEAST + "0", 18);
        fault(LEAST + " \n%", 20);
        fault("go;", 2);
        fault("go 1;put;", 8);
        fault("go 1;put 0;take;", 15);
    }

    // ---- tokens

    /** "NUMBERS (digits, 4 at most)" and the FAULT of "a NUMBER that is too long" */
    private static void aNumberHasFourDigits() {
        value("0", 0);
        value("9", 9);
        value("9999", 9999);
        value("0000", 0);
        value("0009", 9);
        fault("go 10000;", 3);
        fault("go 00000;", 3);
        fault("go 99999;", 3);
        fault("go 1+12345", 5);
        fault("go 1234 5;", 8);
        fault("go 1;put 123456789012;", 9);
        fault("go " + "0".repeat(157), 3);
    }

    /** "TOKENS, each as long as can be" */
    private static void tokensAreAsLongAsCanBe() {
        due("words by numbers", Check.text(new ElevenPebbles(), "go1and2or not3;put0;take0;"), 1);
        due("words by signs", Check.text(new ElevenPebbles(), "go(bag)*-bag<step;put(0);take-0;"), 1);
        fault("gobag;", 0);
        fault("go notbag;", 3);
        fault("go bagand 1;", 3);
        fault("go step bag;", 8);
        fault("g o 1;", 0);
        fault("go ba g;", 3);
        fault("go 1 2;", 5);
        fault("go 99991;", 3);
        fault("go bag2;", 6);
    }

    /** "a WORD that is neither KEY nor NAME" */
    private static void aWordIsAKeyOrAName() {
        for (String name : new String[] {"came", "doors", "pebbles", "bag", "step", "number"}) {
            due("name " + name, Check.text(new ElevenPebbles(), "go " + name + ";put 0;take 0;"), 1);
            fault("go " + name + "s;", 3);
            fault("go " + name.substring(1) + ";", 3);
            fault("go " + name.substring(0, name.length() - 1) + ";", 3);
            fault("go 1 " + name + "x;", 5);
            for (char letter = 'a'; letter <= 'z'; letter++) {
                fault("go " + name + letter + ";", 3);
                fault("go " + letter + name + ";", 3);
                if (letter != name.charAt(0)) {
                    fault("go " + letter + name.substring(1) + ";", 3);
                }
            }
        }
        fault("goo 1;", 0);
        fault("g 1;", 0);
        fault("o 1;", 0);
        fault("go 1;puts 1;", 5);
        fault("go 1;put 1;tak 1;", 11);
        fault("go 1 o 1;", 5);
        fault("go 1 an 1;", 5);
        fault("go no 1;", 3);
        fault("GO 1;", 0);
        fault("go Bag;", 3);
        fault("go baG;", 3);
        fault("go bagG;", 6);
        fault("go " + "z".repeat(157), 3);
    }

    private static void aKeyStandsWhereItMay() {
        for (String key : new String[] {"go", "put", "take", "or", "and"}) {
            fault("go " + key + ";", 3);
            fault("go 1+" + key + ";", 5);
            fault("go (" + key + ");", 4);
            fault("go not " + key + ";", 7);
            fault("go -" + key + ";", 4);
        }
        fault("go 1 go;", 5);
        fault("go 1 not;", 5);
        fault("go 1 or and 1;", 8);
        fault("go 1 and and 1;", 9);
        fault("not 1;", 0);
    }

    /** "blanks (32, 10) may stand between" */
    private static void blanksAre32And10() {
        due("between all", Check.text(new ElevenPebbles(), "\n go \n1\n ; put ( - 0 ) ;\n\ntake\n0 ;\n"), 1);
        for (char b : new char[] {9, 11, 12, 13, 31, 33, 0, 160, 138}) {
            fault(b + LEAST, 0);
            fault("go" + b + "1;", 2);
            fault("go 1" + b + ";", 4);
            fault(LEAST + b, 18);
        }
    }

    /** "a byte that begins none" */
    private static void eachByteThatBeginsNoToken() {
        String signs = "();+-*<=";
        for (char b = 0; b < 256; b++) {
            boolean begins = b >= 'a' && b <= 'z' || b >= '0' && b <= '9' || b == 32 || b == 10 || signs.indexOf(b) >= 0;
            if (!begins) {
                fault("go " + b + "1;put 0;take 0;", 3);
                fault("go 1" + b + ";put 0;take 0;", 4);
                fault("go bag" + b + "put 0;take 0;", 6);
            }
        }
    }

    // ---- how an E is built

    /** "SUM, perhaps < or = and a SUM": once */
    private static void aComparisonIsOfTwoSums() {
        value("1+1<2+1", 1);
        value("2*2=1+3", 1);
        fault("go 1<2<3;", 6);
        fault("go 1=1=1;", 6);
        fault("go 1<2=1;", 6);
        fault("go <1;", 3);
        fault("go 1<;", 5);
        fault("go 1==1;", 5);
        fault("go 1<=1;", 5);
        value("(1<2)<3", 1);
        value("1<2 and 2<3", 1);
    }

    private static void aNotIsNoPartOfASum() {
        fault("go 1+not 1;", 5);
        fault("go 1*not 1;", 5);
        fault("go -not 1;", 4);
        fault("go 1=not 1;", 5);
        value("1+(not 1)", 1);
        value("not 1+1", 0);
        value("not 1=2", 1);
        value("1 and not 0 or not 1", 1);
    }

    private static void bracketsMatch() {
        fault("go ();", 4);
        fault("go (;", 4);
        fault("go (1;", 5);
        fault("go (1));", 6);
        fault("go );", 3);
        fault("go ((1);", 7);
        fault("go (1 1);", 6);
    }

    /** "a ( , a not, a - ahead of a ONE while 5 of these are open" */
    private static void fiveMayBeOpen() {
        value("(((((1)))))", 1);
        fault("go ((((((1", 8);
        value("not not not not not 1", 0);
        fault("go not not not not not not 1", 23);
        value("-----1", -1);
        fault("go ------1", 8);
        fault("go 1;put ((((((1", 14);
        fault("go 1;put 1;take ------1", 21);
    }

    private static void fiveMayBeOpenMixed() {
        value("not(not(-1))", 1);
        value("not(not(-1)*1)", 1);
        value("not -(-(1))", 0);
        fault("go not -(-(-1", 11);
        fault("go not -(-((1", 11);
        fault("go not not((not not 1", 16);
        fault("go ((((- -1", 9);
        fault("go ((((-(1", 8);
        fault("go not not not not -(1", 20);
        fault("go not not not(-1+-(1", 19);
    }

    /** "(a ( till its ) , not and - till what they belong to ends)" */
    private static void whatHasEndedIsOpenNoMore() {
        value("(((((1)))))+(((((1)))))", 2);
        value("(((((1)))))*(((((2)))))", 2);
        value("-----1*-----2", 2);
        value("-----1+-----2", -3);
        value("-----1<-----2", 0);
        value("not not not not not 0 and not not not not not 0", 1);
        value("not not not not not 1 or (((((1)))))", 1);
        value("((((-1+-1))))", -2);
        value("((((-1*(2)))))", -2);
        value("((((not 1 or not 0))))", 1);
        value("((((not 1 and (2)))))", 0);
        value("(1)+(2)+(3)+(4)+(5)+(6)+(7)", 28);
        value("-1-1-1-1-1-1-1-1", -8);
    }

    private static void whatHasNotEndedIsOpenStill() {
        fault("go not not not not not 1+-1", 25);
        fault("go not not not not not 1<(1", 25);
        fault("go not not not not not 1*(1", 25);
        fault("go (((((1+-1", 10);
        fault("go (((((1 or -1", 13);
        fault("go (((((1 and not 1", 14);
        fault("go (((((1<(1", 10);
        fault("go -(-(-1-1)-(--1-(1)-((1)-(-(", 28);
    }

    private static void aMinusBetweenTermsOpensNothing() {
        value("(((((1-1-1-1-1-1)))))", -4);
        value("-----1-1", -2);
        value("1--1", 2);
        value("1-----1", 0);
        value("1------1", 2);
        fault("go 1-------1", 10);
    }

    private static void anOpenTooManyIsTheFaultAheadOfLaterOnes() {
        fault("go ((((((%", 8);
        fault("go (((((-99999", 8);
        fault("go (((((%", 8);
        fault("go (((((;", 8);
        fault("go (((((", 8);
        fault("go ((((((", 8);
    }

    private static void ofTwoFaultsTheFirst() {
        fault("go 1 2 %", 5);
        fault("go 1 % 2", 5);
        fault("% go", 0);
        fault("put %", 0);
        fault("go 12345 x", 3);
        fault("go x 12345", 3);
        fault("go 1;go x;", 5);
    }

    private static void aFaultEmptiesTheTapeAlone() {
        ElevenPebbles x = Check.with("a");
        x.walker(0, 0, 0);
        due("a text", Check.text(x, "go 2;put 3;take 4;"), 1);
        x.force(1);
        due("a fault", Check.text(x, "go 7;put 7;take 7"), -117);
        due("the tape is empty", x.count(3), 0);
        due("two texts", x.count(2), 2);
        due("THE RULE is the same", x.count(4), 1);
        for (int key = 0; key < 3; key++) {
            due("and says the same", x.says(0, key), 2 + key);
        }
        due("the next takes the next number", Check.text(x, LEAST), 2);
        due("a long text", Check.text(x, "go not not not not 1;put not not not 1;take -----1 or -number;"), 3);
        due("a short one behind it has nothing of it", Check.text(x, "go 8;put 0;take 9;"), 4);
        x.force(4);
        due("go", x.says(0, 0), 8);
        due("take", x.says(0, 2), 9);
    }

    // ---- "An E is an int (32 bits, wrapping)"

    private static void anEWrapsAt32Bits() {
        value("8192*8192*32-1", Integer.MAX_VALUE);
        value("8192*8192*32", Integer.MIN_VALUE);
        value("8192*8192*32-1+1", Integer.MIN_VALUE);
        value("-(8192*8192*32)", Integer.MIN_VALUE);
        value("-(8192*8192*32)-1", Integer.MAX_VALUE);
        value("8192*8192*64", 0);
        value("8192*8192*64+7", 7);
        value("(8192*8192*32)*-1", Integer.MIN_VALUE);
        value("9999*9999*9999", 9999 * 9999 * 9999);
        value("0-8192*8192*32", Integer.MIN_VALUE);
        value("(8192*8192*32-1)*(8192*8192*32-1)", 1);
    }

    private static void comparisonsDoNotWrap() {
        value("8192*8192*32<8192*8192*32-1", 1);
        value("8192*8192*32-1<8192*8192*32", 0);
        value("8192*8192*32<0", 1);
        value("0<8192*8192*32", 0);
        value("8192*8192*64=0", 1);
        value("8192*8192*32=0", 0);
        value("3<3", 0);
        value("3<4", 1);
        value("4<3", 0);
        value("-1<0", 1);
    }

    /** "of or, and, not, <, = 1 or 0 (what is not 0 is true)" */
    private static void whatIsNotZeroIsTrue() {
        for (String e : new String[] {"2", "(-1)", "256", "8192*8", "8192*8192*32", "9999"}) {
            value("not " + e, 0);
            value("not not " + e, 1);
            value(e + " and 2", 1);
            value("2 and " + e, 1);
            value(e + " or 0", 1);
            value("0 or " + e, 1);
            value(e + " and 0", 0);
        }
        value("0 or 0", 0);
        value("0 and 0", 0);
        value("1 and 2", 1);
        value("not 0", 1);
        value("2 or 2", 1);
    }

    // ---- promise 10: "-1000000: none such"

    private static void saysRefuses() {
        for (int none : new int[] {-1, 6, 8, Integer.MIN_VALUE, Integer.MAX_VALUE}) {
            Twin.refused("says: walker " + none, Twin::rich, x -> x.says(none, 0), NO_SAYING);
        }
        for (int none : new int[] {-1, 3, Integer.MIN_VALUE, Integer.MAX_VALUE}) {
            Twin.refused("says: key " + none, Twin::rich, x -> x.says(0, none), NO_SAYING);
        }
        Twin.refused("says: the eighth walker", Twin::full, x -> x.says(7, 0), 1);
        Twin.refused("says: a ninth walker", Twin::full, x -> x.says(8, 0), NO_SAYING);
    }

    private static void namesAtTheirEnds() {
        ElevenPebbles x = Check.with("b;a0>b3;a1>b3;a2>b3;a3>b3", "j");
        Check.text(x, "go came*100+doors;put pebbles*100+bag;take step*100+number;");
        x.force(1);
        x.walker(0, 0, 911);
        x.pebbles(0, 0, 99);
        due("CAME 0, four doors", x.says(0, 0), 4);
        due("99 lie, 11 in the bag", x.says(0, 1), 9911);
        due("no step, number 9", x.says(0, 2), 9);
        x.step(0, 1);
        due("CAME 3, no doors", x.says(0, 0), 300);
        due("none lies", x.says(0, 1), 12);
        due("one step", x.says(0, 2), 109);
        x.walker(0, 10, 0);
        due("no doors in the other maze", x.says(1, 0), 0);
        due("nothing", x.says(1, 1) + x.says(1, 2), 0);
    }

    // ---- promise 5

    private static void forceTakesTextsThatAreThere() {
        ElevenPebbles x = withSixTexts();
        due("the last", x.force(5), 0);
        due("the first", x.force(0), 5);
        due("which was", x.count(4), 0);
        due("one that is THE RULE", x.force(0), 0);
    }

    private static void forceRefuses() {
        for (int text : new int[] {-1, 2, 5, 6, Integer.MIN_VALUE, Integer.MAX_VALUE}) {
            Twin.refused("force: text " + text + " of two", Twin::rich, x -> x.force(text), BAD);
        }
        Twin.refused("force: text 6 of six", Twin::full, x -> x.force(6), BAD);
        Twin.changes("force: text 0", Twin::rich, x -> x.force(0), 1);
    }

    /** "TEXT 0, at first THE RULE, is: go 1 ; put pebbles = 0 ; take 0 ;" */
    private static void textZeroIsAsTold() {
        ElevenPebbles x = Check.with("a");
        x.walker(0, 0, 3);
        int[] lie = {0, 1, 99};
        for (int n : lie) {
            x.pebbles(0, 0, n);
            due("go", x.says(0, 0), 1);
            due("put with " + n, x.says(0, 1), n == 0 ? 1 : 0);
            due("take", x.says(0, 2), 0);
        }
    }

    /** What an E comes to, in each place where one may stand. */
    private static void value(String e, int want) {
        ElevenPebbles x = Check.with("a");
        x.walker(0, 0, 0);
        String[] texts = {"go " + e + ";put 5;take 6;", "go 5;put " + e + ";take 6;", "go 5;put 6;take " + e + ";"};
        for (int key = 0; key < 3; key++) {
            due("text " + texts[key], Check.text(x, texts[key]), key + 1);
            x.force(key + 1);
            due(e, x.says(0, key), want);
        }
    }

    private static void fault(String text, int place) {
        ElevenPebbles x = new ElevenPebbles();
        due("text " + text, Check.text(x, text), -100 - place);
        due("the tape is empty behind " + text, x.count(3), 0);
        due("no text came by " + text, x.count(2), 1);
    }
}
