/** For each promise of the document, tests that fail if it is broken. */
public final class PromisesTest extends Bounds {
    private PromisesTest() {
    }

    public static void main(String[] args) {
        newObject();
        parish();
        ofPlain();
        ofByLaw();
        group();
        terms();
        feedAndEnd();
        rowAndStones();
        law();
        lawFaults();
        lawWords();
        sumsAndTests();
        orders();
        ordersWholly();
        orderWords();
        orderFaults();
        stopped();
        force();
        reckon();
        caps();
        pass();
        lend();
        grow();
        undo();
        undoKeeps();
        once();
        fewest();
        lent();
        odds();
        best();
        hear();
        hidden();
        look();
        moved();
        flow();
        years();
        imageAndBack();
        count();
        status();
        Check.end("PromisesTest");
    }

    private static void newObject() {
        Used x = new Used();
        for (int what = 0; what <= 12; what++) {
            due("new count(" + what + ")", x.count(what), 0);
        }
        due("new force", x.count(13), NONE);
        due("new day", x.count(14), 0);
        due("new by", x.count(15), 10);
        due("new rate", x.count(16), 2);
        due("new mood", x.count(17), 0);
        due("new status", x.status(), 0);
        due("new fault", x.fault(), NONE);
        due("new stopped", x.stopped(), NONE);
        due("new stones", x.stones(), 0);
        due("new drawn", x.drawn(0, 2), NONE);
        due("new group", x.group(0, 0), NONE);
        due("new of", x.of(0, 0), NOTHING);
        due("new flow", x.flow(60, 1), 0);
        due("new pass", x.pass(), 0);
        due("new back", x.back(0), -2);
    }

    private static void parish() {
        Used x = new Used();
        due("below itself", x.parish(0, 5), -1);
        due("below -2", x.parish(-2, 5), -1);
        due("count -1", x.parish(-1, -1), -1);
        due("count 1000", x.parish(-1, 1000), -1);
        due("count 0", x.parish(-1, 0), 0);
        due("count 999", x.parish(0, 999), 1);
        for (int i = 2; i < 10; i++) {
            due("parish " + i, x.parish(i - 1, i), i);
        }
        due("the eleventh", x.parish(9, 1), -5);
        due("the eleventh, wrong", x.parish(10, 1), -1);
        due("the eleventh's count", x.parish(9, 1000), -1);
        due("ten of them", x.count(0), 10);
        due("depth", x.of(9, 2), 9);
    }

    private static void ofPlain() {
        Used x = valleys();
        int[][] want = {{-1, 23, 0, 0, 10, 3, 3, 1, 0, 1}, {0, 17, 1, 0, 10, 7, 7, 1, 0, 2},
            {0, 8, 1, 0, 10, 8, 8, 1, 0, 2}, {1, 45, 2, 0, 10, 5, 5, 1, 0, 3}};
        for (int p = 0; p < 4; p++) {
            for (int what = 0; what < 10; what++) {
                due("of(" + p + ", " + what + ")", x.of(p, what), want[p][what]);
            }
        }
        due("of(0, -1)", x.of(0, -1), NOTHING);
        due("of(0, 10)", x.of(0, 10), NOTHING);
        due("of(-1, 0)", x.of(-1, 0), NOTHING);
        due("of(4, 1)", x.of(4, 1), NOTHING);
        due("of MAX", x.of(Integer.MAX_VALUE, 1), NOTHING);
        x.terms(1, 7);
        due("by BY", x.of(1, 4), 7);
        due("over by BY", x.of(1, 5), 3);
    }

    private static int byLaw(String law, int count, int what) {
        Used x = Check.lone(count);
        Check.rule(x, law);
        return x.of(0, what);
    }

    private static void ofByLaw() {
        due("tens 1", byLaw("tens 1", 23, 4), 2);
        due("tens 0-5", byLaw("tens 0-5", 23, 4), 2);
        due("tens 2", byLaw("tens 2", 23, 4), 2);
        due("tens 99", byLaw("tens 99", 23, 4), 99);
        due("tens 100", byLaw("tens 100", 23, 4), 99);
        due("the last tens", byLaw("tens 5;tens 7", 23, 4), 7);
        due("the last that holds", byLaw("tens 5;tens 7 if 1 = 2", 23, 4), 5);
        due("broken sum", byLaw("tens 5;tens 7 / 0", 23, 4), 5);
        due("broken if", byLaw("tens 5;tens 7 if 1 / 0 = 0", 23, 4), 5);
        due("none holds", byLaw("tens 5 if 1 > 2", 23, 4), 10);
        due("over in tens", byLaw("tens 10 + over", 23, 4), 9);
        due("over in tens' if", byLaw("tens 4 if over = 0 - 1", 23, 4), 4);
        due("over by tens", byLaw("tens 7", 23, 5), 2);
        due("stays", byLaw("stays 2", 23, 6), 1);
        due("stays more than over", byLaw("stays 50", 23, 6), 0);
        due("stays below 0", byLaw("stays 0 - 4", 23, 6), 3);
        due("the last stays", byLaw("stays 3;stays 1", 23, 6), 2);
        due("stays by over", byLaw("tens 7;stays over / 2", 27, 6), 3);
        due("stays beyond 98", byLaw("tens 99;stays 99", 98, 6), 0);
        due("over is told ahead of order", byLaw("stays over;tens 7", 23, 6), 0);
        due("steps", byLaw("steps 4", 23, 7), 4);
        due("steps 0", byLaw("steps 0", 23, 7), 1);
        due("steps 10", byLaw("steps 10", 23, 7), 9);
        due("not barred", byLaw("bars if over > 3", 23, 8), 0);
        due("barred", byLaw("bars if over = 3", 23, 8), 1);
        due("barred plainly", byLaw("bars", 23, 8), 1);
        due("any bars", byLaw("bars;bars if 1 = 2", 23, 8), 1);
        due("broken bars", byLaw("bars if 1 % 0 = 0", 23, 8), 0);
        due("walkers of a barred one", byLaw("bars;stays 1", 23, 6), 2);
        Used x = valleys();
        Check.rule(x, "steps parish + 2");
        due("steps to the sea", x.of(3, 9), 5 + 3 + 2);
    }

    private static void group() {
        Used x = valleys();
        Check.rule(x, "steps 1 + parish");
        x.reckon(3);
        x.reckon(1);
        x.reckon(2);
        due("first from", x.group(0, 0), 3);
        due("first left", x.group(0, 2), 4);
        due("second from", x.group(1, 0), 1);
        due("second size", x.group(1, 1), 7);
        due("second left", x.group(1, 2), 2);
        due("third", x.group(2, 0), 2);
        due("no fourth", x.group(3, 0), NONE);
        due("no -1", x.group(-1, 0), NONE);
        due("what 3", x.group(0, 3), NONE);
        due("what -1", x.group(0, -1), NONE);
        x.pass();
        x.pass();
        due("two are left", x.count(1), 2);
        due("the earliest is first still", x.group(0, 0), 3);
        due("a day less", x.group(0, 2), 2);
        due("the next moved up", x.group(1, 0), 2);
        due("its days", x.group(1, 2), 1);
    }

    private static void terms() {
        int[] least = {0, 2, 0, 0};
        int[] most = {999, 99, 10, 9};
        int[] first = {0, 10, 2, 0};
        Used x = new Used();
        for (int what = 0; what < 4; what++) {
            due("too low " + what, x.terms(what, least[what] - 1), -1);
            due("too high " + what, x.terms(what, most[what] + 1), -1);
            due("stays " + what, x.count(14 + what), first[what]);
            due("most " + what, x.terms(what, most[what]), first[what]);
            due("least " + what, x.terms(what, least[what]), most[what]);
            due("then " + what, x.count(14 + what), least[what]);
        }
        due("what -1", x.terms(-1, 5), -1);
        due("what 4", x.terms(4, 5), -1);
        due("what MIN", x.terms(Integer.MIN_VALUE, 5), -1);
    }

    private static void feedAndEnd() {
        Used x = new Used();
        for (int i = 1; i <= 20; i++) {
            due("feed " + i, x.feed(0, 0, 0, 0, 0), 20 * i);
        }
        due("feed 21", x.feed(0, 0, 0, 0, 0), NONE);
        due("bytes", x.count(7), 400);
        due("end 401", x.end(401), NONE);
        due("end -1", x.end(-1), NONE);
        due("end 381", x.end(381), 381);
        due("feed beyond", x.feed(0, 0, 0, 0, 0), NONE);
        due("end 380", x.end(380), 380);
        due("feed to the end", x.feed(0, 0, 0, 0, 0), 400);
        due("end 0", x.end(0), 0);
        due("end 1 of none", x.end(1), NONE);
        due("status aside", x.status(), 0);
        // The highest byte first, behind what is there: 0 4 2 | 1 255.. is a stone | ..
        x.feed(0x00040201, 0x63090100, 0x05FFFFFF, 0xFFFFFFFF, 0xFFFFFFFF);
        x.end(9);
        due("row of fed bytes", x.row(), 3);
        due("first count", x.of(0, 1), 42);
        due("second count", x.of(1, 1), 999);
        due("third count", x.of(2, 1), 5);
    }

    private static void rowAndStones() {
        Used x = new Used();
        due("empty", x.row(), -6);
        Check.tape(x, 0, 2, 5, 5, 1, 1, 1, 3, 10, 1, 99, 9, 1);
        due("row", x.row(), 2);
        due("stones", x.stones(), 3);
        due("tape is empty", x.count(7), 0);
        due("below", x.of(1, 0), 0);
        due("empty again", x.row(), -6);
        due("stones stay", x.stones(), 3);
        Check.tape(x, 1, 100, 0, 255, 0, 0);
        due("all stones", x.row(), 0);
        due("not refused", x.status(), 0);
        due("two stones", x.stones(), 2);
        Check.tape(x, 1, 0);
        due("ends within", x.row(), 0);
        due("one stone", x.stones(), 1);
        int[] many = new int[30];
        for (int i = 0; i < 30; i += 3) {
            many[i] = 1;
        }
        Check.tape(x, many);
        due("as many as there is room for", x.row(), 8);
        due("two without room", x.stones(), 2);
        due("ten", x.count(0), 10);
        Used y = Check.lone(5);
        y.grow(0, 1);
        Check.tape(y, 9, 9, 9);
        due("a row of a stone", y.row(), 0);
        due("nothing can be undone behind it", y.undo(), -3);
    }

    private static void law() {
        Used x = Check.lone(23);
        due("empty tape", x.law(), -6);
        due("fault of none", x.fault(), 0);
        for (int i = 0; i < 6; i++) {
            due("law " + i, Check.law(x, "tens " + (i + 2)), i);
            due("its fault", x.fault(), NONE);
            due("its tape", x.count(7), 0);
        }
        due("blanks", Check.orders(x, "  "), -6);
        due("at the end", x.fault(), 2);
        due("a seventh", Check.law(x, "tens"), -5);
        due("its tape", x.count(7), 0);
        due("not read", x.fault(), 2);
        due("a seventh that is well", Check.law(x, "tens 5"), -5);
        due("laws", x.count(5), 6);
        for (int i = 0; i < 6; i++) {
            x.force(i);
            due("tens of law " + i, x.of(0, 4), i + 2);
        }
        Used y = Check.lone(23);
        due("a wrong one", Check.law(y, "tens 5 5"), -6);
        due("is none", y.count(5), 0);
        due("its tape is empty, too", y.count(7), 0);
        due("blanks first", Check.law(y, "   "), -6);
        due("their end", y.fault(), 3);
        due("none is in force", y.count(13), NONE);
    }

    private static void lawFault(String text, int place) {
        Used x = new Used();
        due("law " + text, Check.law(x, text), place == NONE ? 0 : -6);
        due("fault of " + text, x.fault(), place);
    }

    private static void lawFaults() {
        lawFault(";", 0);
        lawFault("bars;", 5);
        lawFault("bars ;; bars", 6);
        lawFault("bars bars", 5);
        lawFault("tens 1001", 5);
        lawFault("tens 1000", NONE);
        lawFault("tens 0001000", NONE);
        lawFault("tens 99999999999999999999", 5);
        lawFault("tens 4294967297", 5);
        lawFault("tens 5 5", 7);
        lawFault("tens +5", 5);
        lawFault("tens 5 -", 8);
        lawFault("tens [5", 7);
        lawFault("tens [5)", 7);
        lawFault("tens (5)", 5);
        lawFault("tens []", 6);
        lawFault("tens 5 if", 9);
        lawFault("tens 5 if 1", 11);
        lawFault("tens 5 if 1 < 2 3", 16);
        lawFault("tens 5 if 1 < 2 < 3", 16);
        lawFault("tens 5 if not", 13);
        lawFault("tens 5 if (1<2", 14);
        lawFault("tens 5 if (1<2]", 14);
        lawFault("tens 5 if [1<2]", 12);
        lawFault("tens 5 if (1)<2", 12);
        lawFault("tens 5 if [1]<2", NONE);
        lawFault("bars if 1<2 or", 14);
        lawFault("bars if 1<2 or and", 15);
        lawFault("bars if 1<2 not", 12);
        lawFault("bars if 1<=2", 10);
        lawFault("bars if 1<2 if 1<2", 12);
        lawFault("bars if done = 1", 8);
        lawFault("bars times 2", 5);
        lawFault("Tens 5", 0);
        lawFault("tensx 5", 0);
        lawFault("tensz 5", 0);
        lawFault("atens 5", 0);
        lawFault("bens 5", 0);
        lawFault("tenz 5", 0);
        lawFault("ten", 0);
        lawFault("tens5", NONE);
        lawFault("  tens5;stays1if1<2and2<3or3<4  ", NONE);
        lawFault("tens 5\n", 6);
        lawFault("tens 5" + (char) 0, 6);
        lawFault("tens 5" + (char) 233, 6);
        lawFault("reckon 1", 0);
        lawFault("tens count 1", 11);
        lawFault("tens parish*count/over%below+depth-walked;steps day;stays mood", NONE);
        lawFault(Check.times(12, "bars", ";"), NONE);
        lawFault(Check.times(13, "bars", ";"), 60);
        lawFault(Check.times(12, "bars", ";") + ";", 60);
        lawFault(Check.times(12, "bars", ";") + " ;  x", 63);
        lawFault("tens " + Check.times(50, "1", "+"), NONE);
        lawFault("tens " + Check.times(51, "1", "+"), 105);
        lawFault("tens " + Check.times(49, "1", "+") + " + day;bars if day = 1", 5 + 97 + 6 + 9);
        lawFault("bars if " + Check.times(24, "1=1", "or ") + "or 1=1 or 1=1", 8 + 24 * 6 + 3 + 4);
        lawFault("tens " + Check.times(8, "[", "") + "1" + Check.times(8, "]", ""), NONE);
        lawFault("tens " + Check.times(9, "[", "") + "1" + Check.times(9, "]", ""), 13);
        lawFault("bars if " + Check.times(8, "(", "") + "1=1" + Check.times(8, ")", ""), NONE);
        lawFault("bars if " + Check.times(9, "(", "") + "1=1" + Check.times(9, ")", ""), 16);
        lawFault("bars if ((((([[[[1]]]]=1)))))", 16);
        lawFault("bars if ((((([[[1]]]=1)))))", NONE);
        lawFault("tens " + Check.times(30, "[1]", "+"), NONE);
        lawFault("bars if " + Check.times(90, "not", " ") + " 1 = 2", NONE);
    }

    private static void lawWords() {
        Used x = valleys();
        x.terms(0, 37);
        x.terms(3, 6);
        x.reckon(3);
        String[] words = {"parish", "count", "over", "below", "depth", "walked", "day", "mood"};
        int[] values = {3, 40, 0, 1, 2, 5, 37, 6};
        for (int i = 0; i < words.length; i++) {
            x.image(0);
            Check.rule(x, "bars if " + words[i] + " = " + values[i]);
            due("the word " + words[i], x.of(3, 8), 1);
            x.back(0);
        }
        x.force(NONE);
        Check.rule(x, "bars if below = 0 - 1");
        due("below at the sea", x.of(0, 8), 1);
        due("below above", x.of(3, 8), 0);
    }

    private static boolean so(String test) {
        return byLaw("bars if " + test, 23, 8) == 1;
    }

    private static void isSo(String test, boolean want) {
        due(test, so(test) ? 1 : 0, want ? 1 : 0);
    }

    private static void sumsAndTests() {
        isSo("1 + 2 * 3 = 7", true);
        isSo("[1 + 2] * 3 = 9", true);
        isSo("10 - 4 - 3 = 3", true);
        isSo("100 / 5 / 2 = 10", true);
        isSo("7 / 2 = 3", true);
        isSo("[0 - 7] / 2 = 0 - 3", true);
        isSo("[0 - 7] % 2 = 0 - 1", true);
        isSo("7 % [0 - 2] = 1", true);
        isSo("17 % 10 * 2 = 14", true);
        isSo("1 < 1", false);
        isSo("1 > 1", false);
        isSo("2 > 1", true);
        isSo("not 2 > 1", false);
        isSo("not not 2 > 1", true);
        isSo("not 1 > 2 and 1 > 2", false);
        isSo("not (1 > 2 and 1 > 2)", true);
        isSo("1 = 1 or 1 = 2 and 1 = 2", true);
        isSo("(1 = 1 or 1 = 2) and 1 = 2", false);
        isSo("1 = 2 and 1 = 1 or 1 = 1", true);
        isSo("1 = 2 or 1 = 2 or 1 = 1", true);
        isSo("1 = 1 or 1 / 0 = 1", true);
        isSo("1 / 0 = 1 or 1 = 1", false);
        isSo("1 = 2 or 1 / 0 = 1 or 1 = 1", false);
        isSo("1 = 1 or 1 = 2 or 1 / 0 = 1", true);
        isSo("not (1 = 2 and 1 / 0 = 1)", true);
        isSo("not (1 = 1 and 1 / 0 = 1)", false);
        isSo("not 1 / 0 = 1", false);
        isSo("1 % 0 = 1", false);
        isSo("not 1 % 0 = 1", false);
        isSo("1000 * 1000 * 1000 > 1", true);
        isSo("1000 * 1000 * 1000 + 1 > 1", false);
        isSo("1000 * 1000 * 1000 + 1 - 2 > 1", false);
        isSo("0 - 1000 * 1000 * 1000 < 1", true);
        isSo("0 - 1000 * 1000 * 1000 - 1 < 1", false);
        isSo("1000 * 1000 * 1000 * 1000 / 1000 > 1", false);
        isSo("1000 * 1000 * 1000 * [1000 * 1000 * 1000] * 16 = 0", false);
        isSo("1 = 1 and (1 = 2 or 2 = 2) and not (3 = 4)", true);
        isSo("[[[1 + 1] * 2 + 1] * 2 + 1] * 2 = 22", true);
        isSo("1 + 2 * [3 + 4 * [5 + 6 * [7 + 8 * [9 + 1 * [2 + 3 * [4 + 5 * 6]]]]]] = 43 * 1000 + 775", true);
    }

    private static void orders() {
        Used x = valleys();
        due("orders", Check.orders(x, "reckon 3;pass"), 2);
        due("the tape", x.count(7), 0);
        due("walked on", x.of(1, 1), 22);
        due("day", x.count(14), 1);
        due("both can be undone", x.count(6), 2);
        due("lend", Check.orders(x, "lend 1 to 0"), 1);
        due("one man", x.of(1, 1), 21);
        due("there", x.of(0, 1), 24);
        due("grow", Check.orders(x, "grow 2 by 99 times 3 if count 2 < 200"), 2);
        due("grown", x.of(2, 1), 206);
        due("times 20", Check.orders(x, "pass times 20"), 20);
        due("sixteen are kept", x.count(6), 16);
        due("nothing to run", Check.orders(x, "pass if 1 = 2"), 0);
        due("broken if is not run", Check.orders(x, "pass if 1 / 0 = 0"), 0);
        due("day", x.count(14), 21);
        due("empty", x.orders(), -6);
        due("fault", x.fault(), 0);
        due("dec", Check.orders(x, "grow 3 by 0 - 99"), -3);
        due("dec less", Check.orders(x, "grow 3 by 0 - 40"), 1);
    }

    private static void ordersWholly() {
        String[] wrong = {"pass;reckon 3;reckon 4", "grow 0 by 1;reckon 1 / 0", "grow 0 by 100", "grow 0 by 0-100",
            "reckon 0-1", "lend 3 to 0", "lend 3 to 3", "grow 0 by 99 times 11", "grow 9 by 1", "lend 0 to 9",
            "pass times 20;pass times 20;grow 0 by 1 % 0", "reckon 1000*1000*1000+1-1000*1000*1000-1",
            "grow 0 by 1000*1000*1000", "lend 1/0 to 0", "pass;pass;grow 2 by 0-9"};
        for (String text : wrong) {
            Used x = valleys();
            x.grow(0, 1);
            x.lend(1, 0, 2);
            String before = seen(x);
            due("orders " + text, Check.orders(x, text), -3);
            due("as it was ahead of " + text, seen(x).equals(before) ? 1 : 0, 1);
            due("refused once", x.count(10), 1);
            due("undo lend", x.undo(), 2);
            due("undo grow", x.undo(), 3);
            due("undo none", x.undo(), -3);
        }
        Used y = Check.lone(9);
        Check.rule(y, "steps 9;tens 99;stays over - 1");
        due("seventeen groups", Check.orders(y, "grow 0 by 50;reckon 0 times 17"), -3);
        due("none", y.count(1), 0);
        due("sixteen", Check.orders(y, "grow 0 by 20;reckon 0 times 16"), 17);
        due("sixteen groups", y.count(1), 16);
        due("far and back", Check.orders(y, "grow 0 by 1000*1000*1000-1000*1000*1000"), 1);
    }

    private static String seen(Used x) {
        return Check.seen(x);
    }

    private static void orderWords() {
        Used x = valleys();
        due("done", Check.orders(x, "grow 0 by done;grow 1 by done;grow 2 by done"), 3);
        due("done 0", x.of(0, 1), 23);
        due("done 1", x.of(1, 1), 18);
        due("done 2", x.of(2, 1), 10);
        due("latest none", Check.orders(x, "grow 0 by latest"), 1);
        due("by -1", x.of(0, 1), 22);
        due("latest", Check.orders(x, "reckon 3;grow 0 by latest;pass;grow 2 by latest"), 4);
        due("by 5", x.of(0, 1), 27);
        due("by 5, too", x.of(2, 1), 15);
        due("latest is of the text", Check.orders(x, "grow 0 by latest"), 1);
        due("by -1 again", x.of(0, 1), 26);
        due("walking", Check.orders(x, "reckon 0;grow 2 by walking;pass;grow 2 by sea"), 4);
        due("by 6 and 6", x.of(2, 1), 27);
        due("count, over", Check.orders(x, "grow 2 by count 0-over 2-count 1+over 1"), 1);
        due("by 20 - 7 - 23 + 3", x.of(2, 1), 20);
        due("without", Check.orders(x, "grow 2 by count 9+over 9"), 1);
        due("by -2", x.of(2, 1), 18);
        x.terms(0, 77);
        due("day", Check.orders(x, "pass;grow 2 by day"), 2);
        due("by 78", x.of(2, 1), 96);
        due("a parish by a sum", Check.orders(x, "reckon done + 2 * 1"), 1);
        due("two's", x.of(2, 1), 90);
        Check.rule(x, "tens 7");
        due("over by law", Check.orders(x, "grow 2 by over 2"), 1);
        due("by 6", x.of(2, 1), 96);
        due("asked each time", Check.orders(x, "grow 2 by 1 times 9 if over 2 < 6"), 1);
    }

    private static void orderFault(String text, int place) {
        Used x = new Used();
        int answer = Check.orders(x, text);
        due("orders " + text, answer == -6 ? 1 : 0, place == NONE ? 0 : 1);
        due("fault of " + text, x.fault(), place);
        due("status of " + text, x.status() == -6 ? 1 : 0, place == NONE ? 0 : 1);
    }

    private static void orderFaults() {
        orderFault("pass", NONE);
        orderFault("pass times 1", NONE);
        orderFault("pass times 20", NONE);
        orderFault("pass times 020", NONE);
        orderFault("pass times 0", 11);
        orderFault("pass times 21", 11);
        orderFault("pass times 99999999999999", 11);
        orderFault("pass times", 10);
        orderFault("pass times day", 11);
        orderFault("pass times 2 times 2", 13);
        orderFault("pass times 2 if 1 = 1", NONE);
        orderFault("pass if 1<2 times 2", 12);
        orderFault("pass 1", 5);
        orderFault("lend 0 to", 9);
        orderFault("lend 0 by 1", 7);
        orderFault("lend 0 1", 7);
        orderFault("lend to 1", 5);
        orderFault("grow 0 by", 9);
        orderFault("grow 0 by 1 by", 12);
        orderFault("reckon", 6);
        orderFault("reckon parish", 7);
        orderFault("reckon mood", 7);
        orderFault("reckon count", 12);
        orderFault("reckon count day", 13);
        orderFault("reckon count 9", NONE);
        orderFault("reckon count 10", 13);
        orderFault("reckon over10", 11);
        orderFault("reckon over 007", NONE);
        orderFault("reckon over [1]", 12);
        orderFault("reckon 1001", 7);
        orderFault("tens 5", 0);
        orderFault("pass;", 5);
        orderFault("pass;pass x", 10);
        orderFault("pass pass", 5);
        orderFault(Check.times(12, "pass", ";"), NONE);
        orderFault(Check.times(13, "pass", ";"), 60);
        orderFault("reckon " + Check.times(50, "count0", "+"), NONE);
        orderFault("reckon " + Check.times(51, "count0", "+"), 7 + 50 * 7);
        orderFault("pass times 5 if 1 = " + Check.times(49, "1", "+"), NONE);
        orderFault("pass times 5 if 1 = " + Check.times(50, "1", "+"), 20 + 98);
        orderFault("reckon [[[[[[[[1]]]]]]]]", NONE);
        orderFault("reckon [[[[[[[[[1]]]]]]]]]", 15);
    }

    private static void stopped() {
        Used x = valleys();
        Check.orders(x, "pass;pass times 3;reckon 7;pass");
        due("the third", x.stopped(), 2);
        due("no fault", x.fault(), NONE);
        due("status", x.status(), -3);
        Check.orders(x, "reckon 9 if 1 = 2;reckon 9");
        due("the second", x.stopped(), 1);
        Check.law(x, "tens 5");
        due("a law aside", x.stopped(), 1);
        Check.orders(x, "pass");
        due("none", x.stopped(), NONE);
        Check.orders(x, "reckon 9");
        due("the first", x.stopped(), 0);
        Check.orders(x, "reckon");
        due("a fault", x.stopped(), NONE);
    }

    private static void force() {
        Used x = Check.lone(23);
        due("no law", x.force(0), -2);
        due("no law -2", x.force(-2), -2);
        due("none", x.force(NONE), NONE);
        due("that is no refusal", x.status(), 0);
        Check.law(x, "tens 5");
        Check.law(x, "tens 7");
        due("no law is in force", x.of(0, 4), 10);
        due("first", x.force(0), NONE);
        due("by it", x.of(0, 4), 5);
        due("second", x.force(1), 0);
        due("by that", x.of(0, 4), 7);
        due("third", x.force(2), -2);
        due("it stays", x.count(13), 1);
        due("none again", x.force(NONE), 1);
        due("by BY", x.of(0, 4), 10);
        due("refused", x.count(9), 3);
        x.grow(0, 1);
        x.force(1);
        due("force is not undone", x.undo(), 3);
        due("so it stays", x.count(13), 1);
    }

    private static void reckon() {
        Used x = valleys();
        due("-1", x.reckon(-1), -2);
        due("4", x.reckon(4), -2);
        due("3", x.reckon(3), 5);
        due("again", x.reckon(3), 0);
        due("no group of none", x.count(1), 1);
        due("walked", x.of(3, 3), 5);
        due("count", x.of(3, 1), 40);
        due("not there yet", x.of(1, 1), 17);
        Check.rule(x, "bars if parish = 2;steps 3;stays 4 if parish = 1");
        due("barred", x.reckon(2), -3);
        due("some stay", x.reckon(1), 3);
        due("they do", x.of(1, 1), 14);
        due("three days", x.group(1, 2), 3);
        Used y = new Used();
        for (int i = 0; i < 10; i++) {
            y.parish(NONE, 999);
        }
        Check.rule(y, "steps 9;tens 99;stays 8 - walked");
        for (int i = 0; i < 16; i++) {
            due("group " + i, y.reckon(i % 10) > 0 ? 1 : 0, 1);
        }
        due("no room", y.reckon(9), -5);
        due("refused by it", y.count(11), 1);
        due("unchanged", y.of(9, 1), 998);
        y.force(NONE);
        y.grow(9, -8);
        due("none over needs no room", y.reckon(9), 0);
        Check.rule(y, "bars");
        due("barred ahead of no room", y.reckon(9), -3);
    }

    private static void caps() {
        Used x = new Used();
        x.parish(NONE, 995);
        x.parish(0, 98);
        Check.rule(x, "tens 99 if parish = 1;tens 5 if parish = 0");
        x.reckon(1);
        due("all arrive", x.pass(), 98);
        due("999 at most", x.of(0, 1), 999);
        due("undone", x.undo() == 1 ? x.of(0, 1) : NONE, 995);
        x.pass();
        x.force(NONE);
        due("at once over 999", x.once(NONE), 9);
    }

    private static void pass() {
        Used x = valleys();
        due("nobody", x.pass(), 0);
        due("day 1", x.count(14), 1);
        x.reckon(0);
        x.reckon(1);
        due("both", x.pass(), 10);
        due("sea", x.count(3), 3);
        due("below", x.of(0, 1), 27);
        due("nobody walks", x.count(2), 0);
        x.terms(0, 998);
        due("the last day", x.pass(), 0);
        due("999", x.count(14), 999);
        due("no more", x.pass(), -3);
        due("still", x.count(14), 999);
        due("by orders", Check.orders(x, "pass"), -3);
    }

    private static void lend() {
        Used x = valleys();
        due("down", x.lend(3, 1, 45), 0);
        due("there", x.of(1, 1), 62);
        due("up", x.lend(1, 3, 2), 60);
        due("more than there are", x.lend(3, 1, 3), -3);
        due("to itself", x.lend(1, 1, 1), -3);
        due("two steps down", x.lend(3, 0, 1), -3);
        due("aside", x.lend(1, 2, 1), -3);
        due("men 0", x.lend(1, 0, 0), -1);
        due("men 100", x.lend(1, 0, 100), -1);
        due("men 100 to none", x.lend(1, 9, 100), -1);
        due("to the sea", x.lend(0, -1, 1), -2);
        due("from none", x.lend(4, 0, 1), -2);
        due("to none, too many", x.lend(3, 4, 99), -2);
        Used y = Check.lone(950);
        y.parish(0, 99);
        due("beyond 999", y.lend(1, 0, 50), -3);
        due("to 999", y.lend(1, 0, 49), 50);
        due("99 men", y.lend(0, 1, 99), 900);
    }

    private static void grow() {
        Used x = Check.lone(100);
        due("99", x.grow(0, 99), 199);
        due("-99", x.grow(0, -99), 100);
        due("100", x.grow(0, 100), -1);
        due("-100", x.grow(0, -100), -1);
        due("100 of none", x.grow(1, 100), -1);
        due("none", x.grow(1, 1), -2);
        due("-1", x.grow(-1, 1), -2);
        due("0", x.grow(0, 0), 100);
        x.grow(0, -99);
        due("below 0", x.grow(0, -2), -3);
        due("to 0", x.grow(0, -1), 0);
        Used y = Check.lone(990);
        due("beyond", y.grow(0, 10), -3);
        due("to 999", y.grow(0, 9), 999);
        due("MIN", y.grow(0, Integer.MIN_VALUE), -1);
    }

    private static void undo() {
        Used x = valleys();
        due("none", x.undo(), -3);
        x.reckon(3);
        String walking = seen(x);
        x.pass();
        x.lend(1, 0, 3);
        x.grow(2, 5);
        due("grow", x.undo(), 3);
        due("lend", x.undo(), 2);
        due("pass", x.undo(), 1);
        due("as it was", seen(x).equals(walking) ? 1 : 0, 1);
        due("reckon", x.undo(), 0);
        due("walked", x.of(3, 3), 0);
        due("none left", x.undo(), -3);
        for (int i = 0; i < 40; i++) {
            x.grow(0, 1);
        }
        due("16 kept", x.count(6), 16);
        due("refused ones are none", x.grow(0, 100), -1);
        due("16 kept still", x.count(6), 16);
        for (int i = 0; i < 16; i++) {
            due("undo " + i, x.undo(), 3);
            due("count " + i, x.of(0, 1), 62 - i);
        }
        due("no seventeenth", x.undo(), -3);
        due("the rest stays", x.of(0, 1), 47);
    }

    private static void undoKeeps() {
        Used none = new Used();
        none.pass();
        none.parish(NONE, 1);
        due("behind the first parish", none.undo(), -3);
        undoByOrders();
        Used x = valleys();
        x.grow(0, 1);
        due("a refused parish", x.parish(9, 1), -1);
        due("a refused term", x.terms(1, 1), -1);
        due("a refused row", x.row(), -6);
        due("leave it", x.count(6), 1);
        Check.law(x, "tens 5");
        x.force(0);
        x.hear(0, 2);
        x.image(0);
        due("law, force, hear, image leave it", x.count(6), 1);
        due("undone", x.undo(), 3);
        due("heard stays", x.count(4), 1);
        due("law stays", x.count(5), 1);
        x.grow(0, 1);
        x.terms(3, 3);
        due("behind a term", x.undo(), -3);
        x.grow(0, 1);
        x.parish(0, 1);
        due("behind a parish", x.undo(), -3);
        x.grow(0, 1);
        x.image(1);
        x.back(1);
        due("behind back", x.undo(), -3);
        due("it stays grown", x.of(0, 1), 26);
        x.grow(0, 1);
        x.terms(0, 9);
        x.pass();
        due("only what is behind", x.undo(), 1);
        due("the day goes back", x.count(14), 9);
        due("no more", x.undo(), -3);
    }

    private static void undoByOrders() {
        String[] texts = {"reckon 0", "reckon 3", "pass", "reckon 2", "lend 0 to 1", "grow 1 by 2", "reckon 1", "pass",
            "pass", "pass", "reckon 0", "pass"};
        for (int from = 0; from <= texts.length; from++) {
            Used first = slowValleys();
            Used apart = slowValleys();
            Used together = slowValleys();
            for (int i = 0; i < texts.length; i++) {
                due("orders " + texts[i], Check.orders(apart, texts[i]), 1);
                if (i < from) {
                    Check.orders(first, texts[i]);
                }
            }
            due("all in one text", Check.orders(together, String.join(";", texts)), texts.length);
            for (int i = texts.length - 1; i >= from; i--) {
                due("undo " + texts[i], apart.undo(), "rplg".indexOf(texts[i].charAt(0)));
                due("undo of one text " + texts[i], together.undo(), "rplg".indexOf(texts[i].charAt(0)));
            }
            due("as it was then " + from, seen(apart).equals(seen(first)) ? 1 : 0, 1);
            due("as it was then, by one text " + from, seen(together).equals(seen(first)) ? 1 : 0, 1);
        }
    }

    private static Used slowValleys() {
        Used x = valleys();
        Check.rule(x, "steps 1 + parish");
        return x;
    }

    private static void once() {
        Used x = valleys();
        due("to the sea", x.once(NONE), 3);
        int[] want = {3, 2, 8, 5};
        for (int p = 0; p < 4; p++) {
            due("from " + p, x.once(p), want[p]);
        }
        due("from 4", x.once(4), NONE);
        due("from -2", x.once(-2), NONE);
        due("on paper", x.of(0, 1), 23);
        due("status aside", x.status(), 0);
        Check.rule(x, "bars if parish = 1;stays 1 if parish = 3");
        due("fewer", x.once(3), 4);
        due("barred", x.once(1), 0);
        due("to the sea then", x.once(NONE), 1);
        x.force(NONE);
        x.reckon(3);
        due("groups aside", x.once(1), 7);
        Used y = Check.lone(30);
        y.parish(0, 7);
        Check.rule(y, "bars if count > 30 and parish = 0");
        due("barred by who comes", y.once(NONE), 0);
        y.force(NONE);
        Check.rule(y, "tens 10 + walked;bars if day = 1");
        due("walked by now", y.once(NONE), 7);
        Used z = new Used();
        z.parish(NONE, 5);
        z.parish(NONE, 6);
        due("both to the sea", z.once(NONE), 11);
    }

    private static void fewest() {
        Used x = valleys();
        due("walk", x.fewest(0), 16);
        due("ahead", x.fewest(1), 12);
        due("what 2", x.fewest(2), NONE);
        due("what -1", x.fewest(-1), NONE);
        due("on paper", x.of(0, 1), 23);
        Used y = Check.lone(5);
        y.parish(0, 4);
        due("behind is fewer", y.fewest(0), 9);
        due("nobody ahead, the lowest", y.fewest(1), 0);
        y.grow(1, 1);
        due("ahead is fewer", y.fewest(0), 5);
        due("one ahead", y.fewest(1), 2);
        Check.rule(y, "bars if parish = 1");
        due("barred", y.fewest(0), 5);
        due("then it is alike", y.fewest(1), 0);
        Used z = new Used();
        for (int i = 0; i < 10; i++) {
            z.parish(i - 1, 11);
        }
        due("ten in a row", z.fewest(0), 10);
        due("as they are", z.fewest(1), 0);
        z.grow(9, 8);
        due("nine fill up the next one's", z.fewest(0), 17);
        due("the highest ahead", z.fewest(1), 512);
    }

    private static void lent() {
        Used x = valleys();
        due("some would be over", x.lent(0), NOTHING);
        due("of a parish, too", x.lent(1), NOTHING);
        x.grow(0, -3);
        int[] want = {9, 0, 2, -2, 5};
        for (int what = 0; what < 5; what++) {
            due("lent(" + what + ")", x.lent(what), want[what]);
        }
        due("none such", x.lent(5), NOTHING);
        due("-1", x.lent(-1), NOTHING);
        Check.rule(x, "tens 7;bars");
        due("laws aside", x.lent(0), 9);
        x.terms(1, 3);
        due("by three", x.lent(0), 0 + 1 + 1 + 0);
        due("up what is missing", x.lent(2), -1);
        due("up, too", x.lent(3), -1);
        due("nothing of 45", x.lent(4), 0);
        Used y = Check.lone(5);
        y.parish(0, 5);
        due("alike: down", y.lent(2), 5);
        y.parish(NONE, 1);
        due("another valley", y.lent(0), NOTHING);
        due("none: none", new Used().lent(0), 0);
        due("none: nothing", new Used().lent(1), NOTHING);
    }

    private static void odds() {
        Used x = valleys();
        due("now", x.odds(1, 0, 7), 1000000000000L);
        due("now not", x.odds(1, 0, 6), 0);
        due("a day", x.odds(1, 1, 8), 200000000000L);
        due("none born", x.odds(1, 1, 7), 800000000000L);
        due("two days", x.odds(1, 2, 8), 320000000000L);
        due("0 follows 9", x.odds(1, 3, 0), 8000000000L);
        due("n -1", x.odds(1, -1, 0), NONE);
        due("n 61", x.odds(1, 61, 0), NONE);
        due("over -1", x.odds(1, 1, -1), NONE);
        due("over 99", x.odds(1, 1, 99), NONE);
        due("over 98", x.odds(1, 60, 98), 0);
        due("none such", x.odds(4, 1, 1), NONE);
        due("the sea", x.odds(-1, 1, 1), NONE);
        long all = 0;
        for (int i = 0; i < 10; i++) {
            all += x.odds(1, 60, i);
        }
        due("nearly all is left", all > 999999999000L && all <= 1000000000000L ? 1 : 0, 1);
        x.terms(2, 10);
        due("sure", x.odds(1, 60, 7), 1000000000000L);
        x.terms(2, 0);
        due("never", x.odds(1, 60, 7), 1000000000000L);
        x.terms(2, 2);
        Check.rule(x, "tens 2");
        due("by law", x.odds(1, 1, 0), 200000000000L);
        due("back again", x.odds(1, 2, 1), 680000000000L);
        x.terms(2, 3);
        due("cut", x.odds(1, 20, 1), cut(20));
        x.back(0);
    }

    /** By two, three of ten born: 17 is odd, so all parts are at 1 first. */
    private static long cut(int days) {
        long even = 0;
        long odd = 1000000000000L;
        for (int i = 0; i < days; i++) {
            long was = even;
            even = (even * 7 + odd * 3) / 10;
            odd = (odd * 7 + was * 3) / 10;
        }
        return odd;
    }

    private static void best() {
        Used x = valleys();
        due("ten", x.best(0), 3);
        due("to the sea", x.best(1), 0);
        due("what 2", x.best(2), NONE);
        due("what -1", x.best(-1), NONE);
        Used y = Check.lone(1);
        due("one man alone", y.best(0), 2);
        due("goes", y.best(1), 1);
        y.grow(0, 98);
        due("99", y.best(0), 3);
        Check.rule(y, "stays 1;tens 50");
        due("a law of who stays", y.best(0), 2);
        due("nobody goes", y.best(1), 0);
        due("by law it is otherwise", y.once(NONE), 48);
        Used z = Check.lone(97);
        z.parish(NONE, 97 + 97);
        due("a prime", z.best(0), 97);
        Used last = Check.lone(197);
        Check.rule(last, "bars if over = 98");
        due("99 is the last", last.best(0), 99);
    }

    private static void hear() {
        Used x = valleys();
        due("over -1", x.hear(0, -1), -1);
        due("over 99", x.hear(0, 99), -1);
        due("over 99 of none", x.hear(9, 99), -1);
        due("of none", x.hear(4, 0), -2);
        due("of the sea", x.hear(-1, 0), -2);
        for (int i = 1; i <= 8; i++) {
            due("heard " + i, x.hear(i % 4, i == 8 ? 98 : 0), i);
        }
        due("the ninth", x.hear(0, 0), -5);
        due("the ninth of none", x.hear(7, 0), -2);
        due("eight", x.count(4), 8);
        due("forget", x.forget(), 8);
        due("nothing", x.count(4), 0);
        due("forget nothing", x.forget(), 0);
        due("status aside", x.status(), -2);
        due("again", x.hear(0, 0), 1);
    }

    private static void hidden() {
        Used x = valleys();
        due("nothing heard", x.hidden(NONE), 4);
        due("-2", x.hidden(-2), NONE);
        x.hear(0, 2);
        due("all make it so", x.hidden(NONE), 4);
        x.hear(1, 2);
        due("two do", x.hidden(NONE), 2);
        due("first", x.hidden(0), 0);
        due("second", x.hidden(1), 2);
        due("third", x.hidden(2), NONE);
        x.hear(1, 3);
        due("not both", x.hidden(NONE), 0);
        Used y = Check.lone(0);
        y.parish(0, 5);
        due("nobody can die in 0", y.hidden(NONE), 1);
        due("the one can", Check.lone(1).hidden(NONE), 1);
        due("but in 1", y.hidden(0), 1);
        Check.rule(y, "bars");
        y.hear(1, 4);
        due("barred, at the end", y.hidden(NONE), 1);
        y.forget();
        y.hear(1, 5);
        due("nobody", y.hidden(NONE), 0);
        Check.rule(y, "bars if parish = 0");
        y.forget();
        y.hear(0, 4);
        due("who came to a barred one", y.hidden(0), 1);
    }

    private static void look() {
        Used x = valleys();
        due("at first", x.look(0), 1);
        due("left", x.look(1), 2);
        x.hear(0, 2);
        x.hear(1, 2);
        due("parish", x.look(0), 2);
        due("left", x.look(1), 1);
        due("what 2", x.look(2), NONE);
        due("what -1", x.look(-1), NONE);
        x.hear(2, 98);
        due("none hidden", x.look(0), NONE);
        due("none left", x.look(1), NONE);
        Used y = Check.lone(7);
        due("the one", y.look(0), 0);
        due("one left", y.look(1), 1);
        y.parish(NONE, 7);
        due("alike: the lowest", y.look(0), 0);
    }

    private static void moved() {
        Used x = valleys();
        due("3", x.moved(3), 11);
        due("2", x.moved(2), 5);
        due("0", x.moved(0), 1);
        due("4", x.moved(4), NONE);
        due("-1", x.moved(-1), NONE);
        Used y = Check.lone(999);
        due("999", y.moved(0), NONE);
        y.grow(0, -1);
        due("998", y.moved(0), 1);
        Check.rule(y, "bars");
        due("barred", y.moved(0), 0);
        Used z = Check.lone(4);
        z.terms(1, 2);
        due("one birth, not two", z.moved(0), 1);
    }

    private static void flow() {
        Used x = valleys();
        Check.rule(x, "steps 9");
        due("many walk", x.flow(4, 2), 4);
        x.force(NONE);
        due("first", x.flow(1, 0), 1);
        due("how many", x.flow(1, 1), 3);
        due("groups", x.flow(1, 2), 0);
        due("one man alone", Check.lone(1).flow(2, 0), 1);
        due("two days", x.flow(2, 1), 8);
        due("n 0", x.flow(0, 0), NONE);
        due("n 61", x.flow(61, 0), NONE);
        due("what 3", x.flow(1, 3), NONE);
        due("what -1", x.flow(1, -1), NONE);
        due("on paper", x.count(14), 0);
        Check.rule(x, "steps 3;bars if parish = 0 and day < 1");
        due("three days and one", x.flow(10, 0), 4);
        due("none in three", x.flow(3, 0), 0);
        due("groups by then", x.flow(3, 2), 4);
        Used y = Check.lone(40);
        y.terms(0, 998);
        Check.rule(y, "tens 7 if day > 1000");
        due("behind 999", y.flow(60, 0), 4);
        due("40 by 7", y.flow(60, 1), 5);
        Used z = new Used();
        z.parish(NONE, 999);
        z.parish(NONE, 999);
        Check.rule(z, "tens 99;steps 9;stays over - 1");
        due("two a day", z.flow(8, 2), 16);
        due("sixteen at most", z.flow(9, 2), 16);
        due("by then", z.flow(9, 1), 2);
        z.reckon(0);
        due("groups as they are", z.flow(9, 1), 3);
    }

    private static void years() {
        Used x = new Used();
        due("no parishes", x.years(0, 1), -3);
        due("no parishes, seed", x.years(-1, 1), -1);
        x = valleys();
        due("seed -1", x.years(-1, 1), -1);
        due("seed 1000001", x.years(1000001, 1), -1);
        due("n 0", x.years(0, 0), -1);
        due("n 101", x.years(0, 101), -1);
        due("nothing yet", x.drawn(0, 0), NONE);
        due("nobody walks yet", x.drawn(0, 2), NONE);
        due("a day", x.years(0, 1), 0);
        due("count", x.drawn(0, 0), 30);
        due("count 1", x.drawn(1, 0), 10);
        due("walked 1", x.drawn(1, 1), 7);
        due("walk", x.drawn(99, 2), 0);
        due("no parish", x.drawn(4, 0), NONE);
        due("-1", x.drawn(-1, 1), NONE);
        due("what 3", x.drawn(0, 3), NONE);
        due("what -1", x.drawn(0, -1), NONE);
        due("refused", x.years(0, 0), -1);
        due("the latest stays", x.drawn(0, 0), 30);
        due("on paper", x.of(0, 1), 23);
        due("a hundred days", x.years(1000000, 100), 22);
        int[] counts = {40, 0, 1, 20};
        int[] walked = {22, 31, 11, 16};
        for (int p = 0; p < 4; p++) {
            due("count behind them " + p, x.drawn(p, 0), counts[p]);
            due("walked behind them " + p, x.drawn(p, 1), walked[p]);
        }
        Used one = Check.lone(1);
        due("a parish alone", one.years(7, 9), 2);
        due("nobody is left", one.drawn(0, 0), 0);
        x.parish(0, 5);
        due("not one of them", x.drawn(4, 0), NONE);
        x.terms(0, 999);
        due("it ends", x.years(0, 100), 0);
        due("all five", x.drawn(4, 0), 5);
        due("as they are", x.drawn(1, 0), 17);
        x.terms(0, 998);
        due("a day is left", x.years(0, 100), 3);
        // Of five: 12345 % 5 is 0, then 628841 % 3 is 2: three walk from 0 to the sea.
        Used y = Check.lone(23);
        y.parish(0, 1);
        y.parish(0, 1);
        y.parish(0, 1);
        y.parish(0, 1);
        due("to the sea", y.years(0, 1), 3);
        due("sea is on paper", y.count(3), 0);
        Check.rule(y, "bars;steps 9");
        due("barred", y.years(0, 1), 0);
        due("not reckoned", y.drawn(0, 0), 23);
        y.force(NONE);
        Check.rule(y, "steps 9");
        y.years(0, 1);
        due("they walk", y.drawn(-5, 2), 3);
        due("status", y.status(), 0);
    }

    private static void imageOfAll() {
        Used x = valleys();
        x.hear(1, 2);
        x.hear(0, 2);
        Check.orders(x, "reckon 0;reckon 3;pass");
        Check.rule(x, "steps 1 + parish;bars if depth > 1");
        x.image(0);
        Check.orders(x, "reckon 2;reckon 1;grow 0 by 5;reckon 0");
        x.image(1);
        x.back(1);
        String more = seen(x);
        int hidden = x.hidden(NONE);
        x.back(0);
        due("two heard", x.count(4), 2);
        x.forget();
        x.hear(3, 3);
        x.hear(3, 4);
        Check.orders(x, "reckon 1;pass;pass;reckon 2;reckon 0;pass");
        x.back(1);
        due("all as at the later one", seen(x).equals(more) ? 1 : 0, 1);
        due("heard as then", x.hidden(NONE), hidden);
        due("arrive", x.pass(), 5);
        Used y = new Used();
        y.image(0);
        y.parish(NONE, 5);
        y.parish(0, 5);
        y.parish(1, 5);
        y.image(1);
        y.reckon(2);
        y.back(0);
        y.parish(NONE, 7);
        y.parish(NONE, 8);
        y.parish(NONE, 9);
        due("walked anew", y.of(2, 3), 0);
        due("depth anew", y.of(2, 2), 0);
        y.back(1);
        due("depth as then", y.of(2, 2), 2);
        due("below as then", y.of(2, 0), 1);
    }

    private static void imageOfHeard() {
        Used x = valleys();
        x.hear(0, 2);
        x.image(0);
        x.forget();
        x.hear(1, 2);
        due("heard of another", x.hidden(NONE), 2);
        x.back(0);
        due("heard of whom", x.hidden(NONE), 4);
        x.forget();
        x.hear(0, 3);
        due("heard otherwise", x.hidden(NONE), 0);
        x.back(0);
        due("heard how many over", x.hidden(NONE), 4);
    }

    private static void imageAndBack() {
        imageOfAll();
        imageOfHeard();
        Used x = valleys();
        due("image 2", x.image(2), -1);
        due("image -1", x.image(-1), -1);
        due("back 2", x.back(2), -1);
        due("back -1", x.back(-1), -1);
        due("not kept", x.back(0), -2);
        Check.rule(x, "tens 7");
        x.hear(1, 4);
        x.reckon(3);
        x.terms(3, 5);
        String then = seen(x);
        due("image", x.image(0), 0);
        due("other not kept", x.back(1), -2);
        x.parish(NONE, 1);
        x.pass();
        x.grow(0, 5);
        x.forget();
        Check.law(x, "tens 8");
        x.force(1);
        x.terms(0, 50);
        x.terms(1, 50);
        x.terms(2, 5);
        x.terms(3, 9);
        x.years(5, 5);
        int yearsCount = x.drawn(0, 0);
        Check.orders(x, "pass;reckon 9");
        Check.tape(x, 9, 9, 9);
        x.row();
        Check.tape(x, 1, 2, 3);
        due("back", x.back(0), 0);
        due("all as it was", seen(x).equals(then) ? 1 : 0, 1);
        due("the tape stays", x.count(7), 3);
        due("stopped stays", x.stopped(), 1);
        due("stones stay", x.stones(), 1);
        due("years stay", x.drawn(0, 0), yearsCount);
        due("the fifth parish, too", x.drawn(4, 1) >= 0 ? 1 : 0, 1);
        due("heard is back", x.hidden(NONE) >= 0 ? x.count(4) : NONE, 1);
        due("refusals stay", x.count(8), 4);
        due("refusals stay, -3", x.count(10), 1);
        due("nothing to undo", x.count(6), 0);
        x.grow(0, 9);
        due("images stay", x.back(0), 0);
        due("as then", seen(x).equals(then) ? 1 : 0, 1);
        x.grow(0, 1);
        due("image 1", x.image(1), 0);
        due("it leaves what can be undone", x.undo(), 3);
        due("back 1", x.back(1), 0);
        due("with one more", x.of(0, 1), 24);
        x.image(0);
        x.back(1);
        x.grow(0, 1);
        x.back(0);
        due("written anew", x.of(0, 1), 24);
        x.end(0);
        x.orders();
        x.back(1);
        due("fault stays", x.fault(), 0);
    }

    private static void count() {
        Used x = valleys();
        x.reckon(1);
        x.reckon(2);
        x.hear(0, 0);
        Check.rule(x, "tens 5");
        x.feed(1, 2, 3, 4, 5);
        int[] want = {4, 2, 15, 0, 1, 1, 2, 20, 0, 0, 0, 0, 0, 0, 0, 10, 2, 0};
        for (int what = 0; what < want.length; what++) {
            due("count(" + what + ")", x.count(what), want[what]);
        }
        due("count(-1)", x.count(-1), NONE);
        due("count(18)", x.count(18), NONE);
        due("count(MIN)", x.count(Integer.MIN_VALUE), NONE);
        x.pass();
        x.reckon(0);
        x.pass();
        due("sea", x.count(3), 3);
        x.end(0);
        x.terms(9, 9);
        x.image(9);
        x.force(9);
        x.force(9);
        x.force(9);
        x.lend(1, 1, 1);
        x.undo();
        x.undo();
        x.undo();
        x.undo();
        x.undo();
        x.undo();
        x.row();
        x.law();
        x.feed(0, 0, 0, 0, 0);
        x.orders();
        int[] refused = {2, 3, 2, 0, 3};
        for (int i = 0; i < 5; i++) {
            due("refused " + i, x.count(8 + i), refused[i]);
        }
        x.once(99);
        x.end(99);
        x.of(99, 0);
        x.hidden(99);
        due("what answers NONE is no refusal", x.count(8), 2);
    }

    private static void status() {
        Used x = new Used();
        x.parish(5, 5);
        due("parish", x.status(), -1);
        x.parish(NONE, 5);
        due("parish well", x.status(), 0);
        x.terms(1, 1);
        due("terms", x.status(), -1);
        x.terms(1, 2);
        due("terms well", x.status(), 0);
        x.row();
        due("row", x.status(), -6);
        x.force(NONE);
        due("force well, NONE", x.status(), 0);
        x.law();
        due("law", x.status(), -6);
        Check.law(x, "tens 5");
        due("law well", x.status(), 0);
        x.force(5);
        due("force", x.status(), -2);
        x.of(99, 99);
        x.once(99);
        x.fewest(9);
        x.count(99);
        x.end(99);
        x.feed(0, 0, 0, 0, 0);
        x.forget();
        x.drawn(0, 0);
        due("others leave it", x.status(), -2);
        x.orders();
        due("orders", x.status(), -6);
        x.pass();
        due("pass well", x.status(), 0);
        x.reckon(9);
        due("reckon", x.status(), -2);
        x.reckon(0);
        due("reckon well", x.status(), 0);
        x.lend(0, 0, 1);
        due("lend", x.status(), -3);
        x.grow(0, 0);
        due("grow well", x.status(), 0);
        x.grow(0, 100);
        due("grow", x.status(), -1);
        x.undo();
        due("undo well", x.status(), 0);
        x.hear(0, 99);
        due("hear", x.status(), -1);
        x.hear(0, 0);
        due("hear well", x.status(), 0);
        x.years(0, 0);
        due("years", x.status(), -1);
        x.years(0, 1);
        due("years well", x.status(), 0);
        x.image(3);
        due("image", x.status(), -1);
        x.image(0);
        due("image well", x.status(), 0);
        x.back(1);
        due("back", x.status(), -2);
        x.back(0);
        due("back well", x.status(), 0);
        x.undo();
        due("undo", x.status(), -3);
    }
}
