/**
 * The boundaries of Terms II and of promises 6, 7 and 10 to 14: at each of
 * them, one short of it, one beyond it.
 */
public final class TextBoundsTest extends Bounds {
    private TextBoundsTest() {
    }

    public static void main(String[] args) {
        tapeOf400();
        feedHighestFirst();
        endOfTape();
        textsOf400();
        letters();
        digits();
        blanks();
        twelveClauses();
        numbersTo1000();
        fiftyParts();
        partsOfOrders();
        eightBrackets();
        faultOfClauses();
        faultOfSums();
        faultOfTests();
        faultOfOrders();
        faultAtTheEnd();
        faultOfTheLatest();
        wordsOfEach();
        sidesOfTests();
        beyondBillion();
        dividedByNothing();
        cutTowards0();
        onlyIfItMatters();
        brokenInLaws();
        brokenInOrders();
        sixLaws();
        lawInForce();
        tensNearest();
        lastThatHolds();
        stays();
        steps();
        overInTens();
        belowAtSea();
        times();
        numbersOfParishes();
        doneAndLatest();
        whatWalksAndSea();
        whollyOrNotAtAll();
        stoppedAt();
        Check.end("TextBoundsTest");
    }

    private static void law(String text, int place) {
        Used x = new Used();
        due("law " + text, Check.law(x, text), place == NONE ? 0 : -6);
        due("fault of " + text, x.fault(), place);
        due("status of " + text, x.status(), place == NONE ? 0 : -6);
        due("laws behind " + text, x.count(5), place == NONE ? 1 : 0);
        due("tape behind " + text, x.count(7), 0);
    }

    /** Orders that can't be are read nevertheless: only a fault tells. */
    private static void orders(String text, int place) {
        Used x = new Used();
        int answer = Check.orders(x, text);
        due("orders " + text, answer == -6 ? 1 : 0, place == NONE ? 0 : 1);
        due("fault of " + text, x.fault(), place);
        due("tape behind " + text, x.count(7), 0);
    }

    private static int byLaw(String law, int count, int what) {
        Used x = Check.lone(count);
        Check.rule(x, law);
        return x.of(0, what);
    }

    private static void so(String test, boolean want) {
        due(test, byLaw("bars if " + test, 23, 8), want ? 1 : 0);
    }

    private static void tapeOf400() {
        says("II, 6: a TAPE of at most 400 bytes; NONE, if there would be more");
        Used x = new Used();
        for (int i = 1; i <= 20; i++) {
            due("so many bytes", x.count(7), 20 * i - 20);
            due("feed " + i, x.feed(0, 0, 0, 0, 0), 20 * i);
        }
        due("feed 21", x.feed(0, 0, 0, 0, 0), NONE);
        due("400 still", x.count(7), 400);
        due("that is not REFUSED", x.status(), 0);
        x.end(399);
        due("from 399", x.feed(0, 0, 0, 0, 0), NONE);
        due("399 still", x.count(7), 399);
        x.end(381);
        due("from 381", x.feed(0, 0, 0, 0, 0), NONE);
        due("381 still", x.count(7), 381);
        x.end(380);
        due("from 380", x.feed(0, 0, 0, 0, 0), 400);
        x.end(379);
        due("from 379", x.feed(0, 0, 0, 0, 0), 399);
        due("no refusal of them all", x.count(8) + x.count(11), 0);
    }

    private static void feedHighestFirst() {
        says("6: four of each number, the highest first, behind the TAPE");
        Used x = new Used();
        // "bars" four bytes at a time, so that any other order tells another place.
        int bars = 'b' << 24 | 'a' << 16 | 'r' << 8 | 's';
        int blank = 0x20202020;
        x.feed(blank, blank, bars, blank, blank);
        due("in the middle", x.law(), 0);
        x.feed(blank, blank, blank, blank, bars);
        due("at the end", x.law(), 1);
        x.feed(0x20202020, 0x20202062, 0x61727320, 0x20202020, 0x20202020);
        due("over two numbers", x.law(), 2);
        x.feed(blank, blank, blank, blank, 0x20206261);
        x.feed(0x72732020, blank, blank, blank, blank);
        due("over two feeds", x.law(), 3);
        x.feed(bars, -1, -1, -1, -1);
        due("255 is no letter", x.law(), -6);
        due("it is the fifth byte", x.fault(), 4);
        x.feed(bars, 0x80000000, 0, 0, 0);
        x.law();
        due("so is 128", x.fault(), 4);
        Used y = new Used();
        y.feed(0x00000100, 0x00020000, 0x03000004, 0x00000500, 0x0006FFFF);
        y.end(18);
        due("rows of them", y.row(), 6);
        for (int p = 0; p < 6; p++) {
            due("count of " + p, y.of(p, 1), p + 1);
        }
    }

    private static void endOfTape() {
        says("7: the first n bytes alone; NONE, if it has not so many, or n is below 0");
        Used x = new Used();
        due("0 of 0", x.end(0), 0);
        due("1 of 0", x.end(1), NONE);
        x.feed(0x62617273, 0x3b62616e, 0x64206f72, 0, 0);
        int[] wrong = {-1, 21, MAX, MIN};
        for (int n : wrong) {
            due("end(" + n + ") of 20", x.end(n), NONE);
            due("20 still", x.count(7), 20);
        }
        due("20 of 20", x.end(20), 20);
        due("19 of 20", x.end(19), 19);
        due("20 of 19", x.end(20), NONE);
        due("19 are left", x.count(7), 19);
        due("4 of 19", x.end(4), 4);
        due("they are the first", x.law(), 0);
        due("the TAPE is empty", x.end(1), NONE);
        x.feed(0x62617273, -1, -1, -1, -1);
        x.end(4);
        x.feed(0x20202020, 0x20202020, 0x20202020, 0x20202020, 0x20202020);
        due("what was cut does not come back", x.law(), 1);
        due("24 of it", x.end(0), 0);
    }

    private static void textsOf400() {
        says("II: TEXTS on a TAPE of at most 400 bytes");
        law("bars" + " ".repeat(396), NONE);
        law(" ".repeat(396) + "bars", NONE);
        law(" ".repeat(395) + "bars", NONE);
        law(" ".repeat(397) + "bar", 397);
        law(" ".repeat(399) + "x", 399);
        law(" ".repeat(400), 400);
        law(" ".repeat(399), 399);
        law("bars" + " ".repeat(395) + ";", 400);
        law("bars" + " ".repeat(395) + "x", 399);
        law("bars if" + " ".repeat(393), 400);
        law("x".repeat(400), 0);
        law("tens " + "0".repeat(394) + "7", NONE);
        law("tens " + "9".repeat(395), 5);
        orders("pass" + " ".repeat(396), NONE);
        orders(" ".repeat(396) + "pass", NONE);
        orders(" ".repeat(400), 400);
        // 392 bytes of tests, of which each has to be asked.
        law("bars if " + "not ".repeat(95) + "1=1   ;bars", NONE);
        due("odd nots", byLaw("bars if " + "not ".repeat(95) + "1=1", 5, 8), 0);
        due("even nots", byLaw("bars if " + "not ".repeat(96) + "1=1", 5, 8), 1);
    }

    private static void letters() {
        says("II: TOKENS, longest rows of letters a .. z");
        law("barsa", 0);
        law("barsz", 0);
        law("bars" + (char) ('a' - 1), 4);
        law("bars" + (char) ('z' + 1), 4);
        law("barsA", 4);
        law("barsZ", 4);
        law("bars9", 4);
        law("Bars", 0);
        law("bar", 0);
        law("bar s", 0);
        law("bars if day=1and day=1", NONE);
        law("bars if day=1an d day=1", 13);
        law("tens day5", 8);
        law("tensday", 0);
        law("tens5if1=1", NONE);
        law("tens5if1=1if", 10);
        String[] words = {"tens 5", "stays 5", "steps 5", "bars", "tens parish", "tens count", "tens over",
            "tens below", "tens depth", "tens walked", "tens day", "tens mood", "bars if 1=1 and 1=1",
            "bars if 1=1 or 1=1", "bars if not 1=1"};
        for (String text : words) {
            eachLetter(text, false);
        }
        String[] orders = {"reckon 1", "pass", "lend 1 to 1", "grow 1 by 1", "pass times 2", "pass if 1=1",
            "reckon day", "reckon done", "reckon latest", "reckon sea", "reckon walking", "reckon count 1",
            "reckon over 1"};
        for (String text : orders) {
            eachLetter(text, true);
        }
    }

    /** Another letter in place of any, one more or one fewer: no such word. */
    private static void eachLetter(String text, boolean asOrders) {
        int start = 0;
        for (int at = 0; at < text.length(); at++) {
            if (!Character.isLetter(text.charAt(at))) {
                continue;
            }
            start = at > 0 && Character.isLetter(text.charAt(at - 1)) ? start : at;
            int end = at + 1;
            String[] wrong = {text.substring(0, at) + "z" + text.substring(end), text.substring(0, at) + "z"
                + text.substring(at), text.substring(0, at) + text.substring(end)};
            for (String spoilt : wrong) {
                if (asOrders) {
                    orders(spoilt, start);
                } else {
                    law(spoilt, start);
                }
            }
        }
    }

    private static void digits() {
        says("II: TOKENS, longest rows of digits");
        law("tens 0", NONE);
        law("tens 9", NONE);
        law("tens 90", NONE);
        law("tens 5" + (char) ('0' - 1), 7);
        law("tens 5" + (char) ('9' + 1), 6);
        law("tens " + (char) ('9' + 1), 5);
        law("tens 1 0", 7);
        law("tens 100 0", 9);
        law("tens 1000", NONE);
        due("by 10", byLaw("tens 10", 5, 4), 10);
        due("by 90", byLaw("tens 90", 5, 4), 90);
        due("by 05", byLaw("tens 05", 5, 4), 5);
    }

    private static void blanks() {
        says("II: any blanks (32) between");
        law("  bars   if  1 =  1 ;  bars  ", NONE);
        law("bars if[1]=[1];bars", NONE);
        char[] others = {0, 9, 10, 11, 12, 13, 31, 33, 127, 160, 255};
        for (char other : others) {
            law("bars" + other, 4);
            law(other + "bars", 0);
            law("bars " + other + " if 1=1", 5);
            orders("pass" + other, 4);
        }
    }

    private static void twelveClauses() {
        says("II: 12 CLAUSES at most (FAULT at the 13th's first TOKEN)");
        law("bars", NONE);
        law(Check.times(11, "bars", ";"), NONE);
        law(Check.times(12, "bars", ";"), NONE);
        law(Check.times(13, "bars", ";"), 60);
        law(Check.times(14, "bars", ";"), 60);
        law(Check.times(12, "bars", ";") + ";  tens 5", 62);
        law(Check.times(12, "bars", ";") + ";x", 60);
        law(Check.times(12, "bars", ";") + ";;", 60);
        law(Check.times(12, "bars", ";") + ";", 60);
        law(Check.times(12, "bars", ";") + ";   ", 63);
        law(Check.times(11, "bars", ";") + ";", 55);
        law(Check.times(12, "bars", ";") + " bars", 60);
        orders(Check.times(12, "pass", ";"), NONE);
        orders(Check.times(13, "pass", ";"), 60);
        orders(Check.times(12, "pass", ";") + " ; pass", 62);
        orders(Check.times(12, "pass", ";") + ";", 60);
        due("the twelfth of a law is asked", byLaw(Check.times(11, "tens 5", ";") + ";tens 7", 5, 4), 7);
        due("the first of twelve is, too", byLaw("tens 7;" + Check.times(11, "steps 5", ";"), 5, 4), 7);
        Used x = new Used();
        due("twelve orders are run", Check.orders(x, Check.times(12, "pass", ";")), 12);
        due("twelve days", x.count(14), 12);
    }

    private static void numbersTo1000() {
        says("II: NUMBER (to 1,000)");
        law("tens 999", NONE);
        law("tens 1000", NONE);
        law("tens 1001", 5);
        law("tens 1002", 5);
        law("tens 10000", 5);
        law("tens 2147483648", 5);
        law("tens 4294967296", 5);
        law("tens 4294968296", 5);
        law("tens 18446744073709551617", 5);
        law("tens 0001000", NONE);
        law("tens 0001001", 5);
        law("tens 5 + 1001", 9);
        law("bars if 1001 = 1", 8);
        law("bars if 1 = 1001", 12);
        law("tens [1001]", 6);
        orders("reckon 1000", NONE);
        orders("reckon 1001", 7);
        orders("grow 0 by 1001", 10);
        so("1000 = 999 + 1", true);
        so("0 = 1 - 1", true);
    }

    private static void fiftyParts() {
        says("II: 50 PARTS that are NUMBERS and words (FAULT at the 51st)");
        law("tens " + Check.times(49, "1", "+"), NONE);
        law("tens " + Check.times(50, "1", "+"), NONE);
        law("tens " + Check.times(51, "1", "+"), 105);
        law("tens " + Check.times(52, "1", "+"), 105);
        law("tens " + Check.times(50, "1", "+") + "+1001", 105);
        law("tens " + Check.times(50, "1", "+") + "+", 105);
        law("tens " + Check.times(50, "1", "+") + "+]", 105);
        law("tens " + Check.times(50, "1", "+") + "+[1]", 106);
        law("tens " + Check.times(50, "day", "+"), NONE);
        law("tens " + Check.times(51, "day", "+"), 205);
        law("tens " + Check.times(50, "[1]", "+"), NONE);
        law("tens " + Check.times(51, "[1]", "+"), 206);
        law("bars if " + Check.times(25, "1=1", "and "), NONE);
        law("bars if " + Check.times(25, "1=1", "and ") + "and 1=1", 8 + 25 * 7 - 4 + 4);
        law("bars if " + Check.times(24, "1=1", "and ") + "and [1+1]*1=1", 8 + 24 * 7 - 4 + 4 + 6);
        // Of the whole TEXT, whatever CLAUSE they are in.
        law(Check.times(10, "tens 1+1+1+1+1", ";"), NONE);
        law(Check.times(10, "tens 1+1+1+1+1", ";") + ";bars", NONE);
        law(Check.times(10, "tens 1+1+1+1+1", ";") + ";tens 1", 155);
        due("the 50th is told", byLaw("tens 50-" + Check.times(49, "1", "-"), 5, 4), 2);
        due("the 50th is added", byLaw("tens " + Check.times(50, "1", "+"), 5, 4), 50);
    }

    private static void partsOfOrders() {
        says("II: P, TIMES aside, NUMBERS and words count as PARTS");
        orders("reckon " + Check.times(50, "count0", "+"), NONE);
        orders("reckon " + Check.times(51, "count0", "+"), 7 + 50 * 7);
        orders("reckon " + Check.times(50, "over0", "+"), NONE);
        orders("reckon " + Check.times(51, "over0", "+"), 7 + 50 * 6);
        orders("reckon " + Check.times(50, "1", "+") + " times 5", NONE);
        orders("reckon " + Check.times(51, "1", "+") + " times 5", 107);
        orders("lend 1 to " + Check.times(49, "1", "+"), NONE);
        orders("lend 1 to " + Check.times(50, "1", "+"), 10 + 98);
        orders("grow 1 by 1 times 20 if 1 = " + Check.times(47, "1", "+"), NONE);
        orders("grow 1 by 1 times 20 if 1 = " + Check.times(48, "1", "+"), 28 + 94);
        orders(Check.times(10, "grow 1 by 1+1+1+1 times 2", ";") + ";pass times 20", NONE);
        orders(Check.times(10, "grow 1 by 1+1+1+1 times 2", ";") + ";reckon 1", 10 * 26 + 7);
    }

    private static void eightBrackets() {
        says("II: 8 brackets of both kinds within one another (FAULT at the 9th)");
        for (int n = 7; n <= 10; n++) {
            String sum = "[".repeat(n) + "7" + "]".repeat(n);
            law("tens " + sum, n <= 8 ? NONE : 13);
            String test = "(".repeat(n) + "7=7" + ")".repeat(n);
            law("bars if " + test, n <= 8 ? NONE : 16);
            orders("reckon " + sum, n <= 8 ? NONE : 15);
            orders("pass if " + test, n <= 8 ? NONE : 16);
            String both = "(".repeat(n - 3) + "1=[[[1]]]" + ")".repeat(n - 3);
            law("bars if " + both, n <= 8 ? NONE : 8 + n - 3 + 2 + 8 - (n - 3));
        }
        String eight = "[".repeat(8) + "7" + "]".repeat(8);
        law("tens " + eight + "+" + eight, NONE);
        law("tens " + eight + "*[" + eight + "]", 5 + 18 + 8);
        law("tens " + eight + ";steps " + eight, NONE);
        law("bars if " + "(".repeat(8) + "1=1" + ")".repeat(8) + "or " + "(".repeat(8) + "1=1" + ")".repeat(8), NONE);
        law("bars if (((((((1=1)))))) or [[[1]]]=1)", NONE);
        law("bars if not (not (not (((((1=1)))))))", NONE);
        law("bars if not (not (not ((((((1=1))))))))", NONE);
        law("bars if not (not (not (((((((1=1)))))))))", 28);
        due("all eight are worked out", byLaw("tens [1+[1+[1+[1+[1+[1+[1+[1+1]]]]]]]]", 5, 4), 9);
        due("from the inside", byLaw("tens [2*[2*[2*[2*[2*[[[1+1]]]]]]]]+1", 5, 4), 65);
    }

    private static void faultOfClauses() {
        says("II: FAULT, the first TOKEN that can't go on there: CLAUSES");
        law("x", 0);
        law("  x", 2);
        law("5", 0);
        law("if 1=1", 0);
        law(";bars", 0);
        law("bars;;bars", 5);
        law("bars;x", 5);
        law("bars ; x 1", 7);
        law("bars 5", 5);
        law("bars;bars 5", 10);
        law("bars,bars", 4);
        law("tens 5 stays 5", 7);
        law("tens;bars", 4);
        law("tens if 1=1", 5);
        law("stays 5 5", 8);
        law("steps", 5);
        law("stays", 5);
        law("steps 5 if", 10);
        law("bars if;bars", 7);
        law("bars if 1=1;x", 12);
        law("tens 5;stays 6;steps 7;bars;tens 8 if day=1;bars if mood>2", NONE);
    }

    private static void faultOfSums() {
        says("II: FAULT, the first TOKEN that can't go on there: SUMS");
        law("tens -5", 5);
        law("tens +5", 5);
        law("tens *5", 5);
        law("tens 5+", 7);
        law("tens 5+-5", 7);
        law("tens 5**5", 7);
        law("tens 5/", 7);
        law("tens 5%;bars", 7);
        law("tens 5^5", 6);
        law("tens [5", 7);
        law("tens [5;bars", 7);
        law("tens [5)", 7);
        law("tens [5 5]", 8);
        law("tens []", 6);
        law("tens [5]]", 8);
        law("tens 5]", 6);
        law("tens (5)", 5);
        law("tens [5=5]", 7);
        law("tens [5]5", 8);
        law("tens 5[5]", 6);
        law("tens day day", 9);
        law("tens x", 5);
        law("tens tens", 5);
        law("tens 5=5", 6);
        law("tens not 5", 5);
        law("tens 5 and 5", 7);
    }

    private static void faultOfTests() {
        says("II: FAULT, the first TOKEN that can't go on there: TESTS");
        law("bars if 1", 9);
        law("bars if 1=", 10);
        law("bars if =1", 8);
        law("bars if 1==1", 10);
        law("bars if 1<>1", 10);
        law("bars if 1<=1", 10);
        law("bars if 1!1", 9);
        law("bars if 1=1=1", 11);
        law("bars if 1=1 1", 12);
        law("bars if not", 11);
        law("bars if not not", 15);
        law("bars if 1 not =1", 10);
        law("bars if 1=not 1", 10);
        law("bars if and", 8);
        law("bars if or 1=1", 8);
        law("bars if 1=1 and", 15);
        law("bars if 1=1 or or 1=1", 15);
        law("bars if 1=1 and or 1=1", 16);
        law("bars if 1=1 and not or", 20);
        law("bars if (1=1", 12);
        law("bars if (1=1]", 12);
        law("bars if (1=1;bars", 12);
        law("bars if ()", 9);
        law("bars if (1)=1", 10);
        law("bars if (1=1)=1", 13);
        law("bars if (1=1)+1", 13);
        law("bars if [1=1]", 10);
        law("bars if [(1=1)]", 9);
        law("bars if 1+(1=1)", 10);
        law("bars if 1=(1)", 10);
        law("bars if (1=1))", 13);
        law("bars if (1=1)(1=1)", 13);
        law("bars if ((1=1)or(1=1))and[1]=[1]", NONE);
    }

    private static void faultOfOrders() {
        says("II: FAULT, the first TOKEN that can't go on there: ORDERS");
        orders("x", 0);
        orders("pass;x", 5);
        orders("pass 5", 5);
        orders("reckon", 6);
        orders("reckon;pass", 6);
        orders("reckon times 2", 7);
        orders("reckon if 1=1", 7);
        orders("reckon 1 1", 9);
        orders("lend", 4);
        orders("lend 0", 6);
        orders("lend 0;pass", 6);
        orders("lend 0 if 1=1", 7);
        orders("lend 0 times 2 to 1", 7);
        orders("lend 0 to", 9);
        orders("lend 0 to;pass", 9);
        orders("lend 0 to to 1", 10);
        orders("lend 0 by 1", 7);
        orders("lend 0 to 1 to 2", 12);
        orders("grow", 4);
        orders("grow 0", 6);
        orders("grow 0;pass", 6);
        orders("grow 0 to 1", 7);
        orders("grow 0 by", 9);
        orders("grow 0 by;pass", 9);
        orders("grow 0 by 1 by 2", 12);
        orders("grow by 1", 5);
        orders("pass times 2 times 2", 13);
        orders("pass if 1=1 times 2", 12);
        orders("pass if 1=1 if 1=1", 12);
        orders("pass times 2 if", 15);
        orders("pass to 1", 5);
        orders("reckon 1 to 2", 9);
        orders("lend 0 to 1 times 3 if day=1;grow 1 by 2 times 3 if day=1;pass times 3 if day=1;reckon 1 times 2", NONE);
    }

    private static void faultAtTheEnd() {
        says("II, 10, 11: the end's FAULT is the TEXT's length (blanks alone: at the end)");
        Used x = new Used();
        due("an empty TAPE", x.law(), -6);
        due("its fault", x.fault(), 0);
        due("as orders", x.orders(), -6);
        due("their fault", x.fault(), 0);
        for (int n = 1; n <= 3; n++) {
            law(" ".repeat(n), n);
            orders(" ".repeat(n), n);
            law("tens" + " ".repeat(n), 4 + n);
            law("tens 5 +" + " ".repeat(n), 8 + n);
            law("bars if 1 = 1 and" + " ".repeat(n), 17 + n);
            law("bars;" + " ".repeat(n), 5 + n);
            orders("reckon [1" + " ".repeat(n), 9 + n);
            orders("pass times" + " ".repeat(n), 10 + n);
            orders("grow count" + " ".repeat(n), 10 + n);
        }
    }

    private static void faultOfTheLatest() {
        says("12: FAULT of the latest law(), orders() that read a TEXT; NONE without");
        Used x = new Used();
        due("ahead of any", x.fault(), NONE);
        Check.law(x, "tens x");
        due("of a law", x.fault(), 5);
        Check.law(x, "tens 5");
        due("of one without", x.fault(), NONE);
        Check.orders(x, "pass x");
        due("of orders", x.fault(), 5);
        Check.orders(x, "reckon 5");
        due("of some that can't be", x.fault(), NONE);
        Check.law(x, "bars x y");
        due("of a law again", x.fault(), 5);
        Check.tape(x, 0, 0, 0);
        x.row();
        x.row();
        x.force(9);
        due("a row aside", x.fault(), 5);
        for (int i = 1; i < 6; i++) {
            Check.law(x, "bars");
        }
        Check.orders(x, "pass xy");
        due("of orders behind six laws", x.fault(), 5);
        due("a law that is not read", Check.law(x, "bars"), -5);
        due("leaves it", x.fault(), 5);
        due("a wrong one that is not read", Check.law(x, "x"), -5);
        due("leaves it, too", x.fault(), 5);
    }

    private static void wordsOfEach() {
        says("II: the words of each language");
        String[] both = {"count", "over", "day"};
        String[] laws = {"parish", "below", "depth", "walked", "mood"};
        String[] orders = {"done", "latest", "sea", "walking"};
        for (String word : laws) {
            law("tens " + word, NONE);
            orders("reckon " + word, 7);
        }
        for (String word : orders) {
            law("tens " + word, 5);
            orders("reckon " + word, NONE);
        }
        for (String word : both) {
            law("tens " + word, NONE);
            law("tens " + word + " 1", 6 + word.length());
            orders("reckon " + word + " 1", word.equals("day") ? 11 : NONE);
            orders("reckon " + word, word.equals("day") ? NONE : 7 + word.length());
        }
        String[] kinds = {"reckon 1", "pass", "lend 1 to 2", "grow 1 by 2"};
        for (String kind : kinds) {
            law(kind, 0);
            orders(kind, NONE);
        }
        String[] rules = {"tens 1", "stays 1", "steps 1", "bars"};
        for (String rule : rules) {
            law(rule, NONE);
            orders(rule, 0);
        }
    }

    private static void beyondBillion() {
        says("II: beyond 1,000,000,000 either way a SUM, a TEST is BROKEN");
        String most = "1000*1000*1000";
        so(most + " > 0", true);
        so(most + "-1 > 0", true);
        so(most + "+1 > 0", false);
        so("not " + most + "+1 > 0", false);
        so(most + "-1+1 > 0", true);
        so(most + "-1+2 > 0", false);
        so(most + "-1+2-2 > 0", false);
        so("1+" + most + " > 0", false);
        so("0-" + most + " < 0", true);
        so("1-" + most + " < 0", true);
        so("0-1-" + most + " < 0", false);
        so("0-" + most + "-1 < 0", false);
        so("0-" + most + "-1+1 < 0", false);
        so("[0-1000]*1000*1000 < 0", true);
        so("[0-1000]*1000*1000-1 < 0", false);
        so("[0-1000]*[0-1000]*1000 > 0", true);
        so("[0-1000]*[0-1000]*1000+1 > 0", false);
        so(most + "*1 > 0", true);
        so(most + "*[0-1] < 0", true);
        so(most + "*2 > 0", false);
        so(most + "*[0-2] < 0", false);
        so("[1000*31+622]*[1000*31+622] > 0", true);
        so("[1000*31+623]*[1000*31+623] > 0", false);
        so("[1000*31+622]*[0-1000*31-622] < 0", true);
        so("[1000*31+623]*[0-1000*31-623] < 0", false);
        so("[500*1000*1000]*2 > 0", true);
        so("[500*1000*1000+1]*2 > 0", false);
        so("[" + most + "]*[" + most + "] > 0", false);
        so("[" + most + "]*[" + most + "] < 0", false);
        so(most + "/1 = " + most, true);
        so(most + "/" + most + " = 1", false);
        so(most + "/[" + most + "] = 1", true);
        so(most + "%[" + most + "] = 0", true);
        so("[0-" + most + "]/[0-1] = " + most, true);
        so("1 = 1 and " + most + "+1 > 0", false);
        so("0 < " + most + "+1", false);
        so("0 = 0*[" + most + "+1]", false);
        due("by as many as 1,000,000,000", byLaw("tens 5;tens " + most, 5, 4), 99);
        due("by one more: BROKEN", byLaw("tens 5;tens " + most + "+1", 5, 4), 5);
        due("by -1,000,000,000", byLaw("tens 5;tens 0-" + most, 5, 4), 2);
        due("by one less: BROKEN", byLaw("tens 5;tens 0-" + most + "-1", 5, 4), 5);
    }

    private static void sidesOfTests() {
        says("II: SUM (< | > | =) SUM, not PLAIN");
        String[] signs = {"<", ">", "="};
        for (int a = 4; a <= 6; a++) {
            boolean[] want = {a < 5, a > 5, a == 5};
            for (int i = 0; i < 3; i++) {
                so(a + signs[i] + "5", want[i]);
                so("not " + a + signs[i] + "5", !want[i]);
                so("not not " + a + signs[i] + "5", want[i]);
                so("not (" + a + signs[i] + "5 and 1=1)", !want[i]);
                so("not (" + a + signs[i] + "5 or 1=2)", !want[i]);
                so("(" + a + signs[i] + "5 or 1=2) and not " + a + signs[i] + "6",
                        want[i] && !(i == 0 ? a < 6 : i == 1 ? a > 6 : a == 6));
            }
        }
    }

    private static void dividedByNothing() {
        says("II: divided by 0 a SUM, a TEST is BROKEN");
        so("1/1 = 1", true);
        so("1/0 = 0", false);
        so("not 1/0 = 0", false);
        so("0/0 = 0", false);
        so("not 0/0 = 0", false);
        so("1%1 = 0", true);
        so("1%0 = 0", false);
        so("not 1%0 = 0", false);
        so("not 1%0 = 1", false);
        so("0/1 = 0", true);
        so("0%1 = 0", true);
        so("1/[1-1] = 0", false);
        so("1/[1-2] = 0-1", true);
        so("1%[1-2] = 0", true);
        so("0*[1/0] = 0", false);
        so("0 = 1/0", false);
        so("not 0 < 1%0", false);
    }

    private static void cutTowards0() {
        says("II: / cut towards 0, % what is left then");
        int[] dividends = {-8, -7, -6, -1, 0, 1, 6, 7, 8};
        int[] divisors = {-3, -2, -1, 1, 2, 3, 7};
        for (int a : dividends) {
            for (int b : divisors) {
                int whole = (int) ((Math.abs(a) / Math.abs(b)) * Math.signum(a) * Math.signum(b));
                int left = a - whole * b;
                String division = number(a) + "/" + number(b) + " = " + number(whole);
                String rest = number(a) + "%" + number(b) + " = " + number(left);
                so(division, true);
                so(rest, true);
            }
        }
    }

    private static String number(int n) {
        return n < 0 ? "[0-" + -n + "]" : String.valueOf(n);
    }

    private static void onlyIfItMatters() {
        says("II: or, and ask what stands behind only if it can still matter");
        String broken = "1/0=0";
        so("1=1 or " + broken, true);
        so("1=2 or " + broken, false);
        so("not (1=2 or " + broken + ")", false);
        so("1=2 and " + broken, false);
        so("not (1=2 and " + broken + ")", true);
        so("not (1=1 and " + broken + ")", false);
        so(broken + " or 1=1", false);
        so(broken + " and 1=2", false);
        so("not (" + broken + " and 1=2)", false);
        so("1=2 or 1=1 or " + broken, true);
        so("1=1 or " + broken + " or " + broken, true);
        so("1=2 or " + broken + " or 1=1", false);
        so("not (1=1 and 1=2 and " + broken + ")", true);
        so("1=1 or 1=1 and " + broken, true);
        so("1=2 and " + broken + " or 1=1", true);
        so("1=1 and " + broken + " or 1=1", false);
        so("(1=1 or " + broken + ") and 1=1", true);
        so("(1=1 or " + broken + ") and " + broken, false);
        so("not (1=1 or " + broken + ") or 1=1", true);
        so("1=1 or (" + broken + ")", true);
        so("1=1 or not " + broken, true);
        so("1=2 and (1=1 or " + broken + ") or 1=1", true);
        so("1=1 or [1000*1000*1000+1]=0", true);
    }

    private static void brokenInLaws() {
        says("II: a CLAUSE HOLDS, if its if is so, and neither that nor its SUM is BROKEN");
        due("tens, a SUM", byLaw("tens 5;tens 7/0", 23, 4), 5);
        due("tens, a TEST", byLaw("tens 5;tens 7 if 1/0=1", 23, 4), 5);
        due("tens, both", byLaw("tens 5;tens 7/0 if 1/0=1", 23, 4), 5);
        due("tens, a TEST that is not so", byLaw("tens 5;tens 7/0 if 1=2", 23, 4), 5);
        due("tens, a TEST that is so", byLaw("tens 5;tens 7/0 if 1=1", 23, 4), 5);
        due("tens, no other", byLaw("tens 7/0", 23, 4), 10);
        due("stays, a SUM", byLaw("stays 2;stays 1/0", 23, 6), 1);
        due("stays, a TEST", byLaw("stays 2;stays 1 if 1%0=1", 23, 6), 1);
        due("stays, no other", byLaw("stays 1/0", 23, 6), 3);
        due("steps, a SUM", byLaw("steps 2;steps 1/0", 23, 7), 2);
        due("steps, a TEST", byLaw("steps 2;steps 1 if 1%0=1", 23, 7), 2);
        due("steps, no other", byLaw("steps 5/0", 23, 7), 1);
        due("bars, a TEST", byLaw("bars if 1/0=1", 23, 8), 0);
        due("bars, not so", byLaw("bars if not 1/0=1", 23, 8), 0);
        due("bars, another is so", byLaw("bars if 1=1;bars if 1/0=1", 23, 8), 1);
        due("one BROKEN does not break others", byLaw("tens 1/0;stays 1;steps 1/0;bars", 23, 6), 2);
        due("nor bars", byLaw("tens 1/0;stays 1/0;steps 1/0;bars", 23, 8), 1);
        due("by what stands: no", byLaw("tens 5;tens 9/[count-23]", 23, 4), 5);
        due("by what stands: yes", byLaw("tens 5;tens 9/[count-23]", 24, 4), 9);
    }

    private static void brokenInOrders() {
        says("II: not run, if its if is not so or BROKEN; a BROKEN SUM can't be");
        String[] wrong = {"reckon 1/0", "lend 1/0 to 0", "lend 0 to 1/0", "grow 1/0 by 1", "grow 0 by 1/0",
            "grow 0 by 1000*1000*1000+1", "grow 0 by 1%0", "grow 0 by 0*[1/0]"};
        for (String text : wrong) {
            Used x = Check.lone(50);
            x.parish(0, 50);
            due(text, Check.orders(x, "pass;" + text), -3);
            due("which", x.stopped(), 1);
            due("no day", x.count(14), 0);
            due("but not, if it is not so: " + text, Check.orders(x, "pass;" + text + " if 1=2"), 1);
            due("nor if that is BROKEN: " + text, Check.orders(x, "pass;" + text + " if 1/0=2"), 1);
            due("nor if its other side is", Check.orders(x, "pass;" + text + " if not 1/0=2"), 1);
            due("three days", x.count(14), 3);
        }
        Used x = Check.lone(50);
        due("some times", Check.orders(x, "grow 0 by 1 times 20 if 10/[55-count 0] > 0"), 5);
        due("up to 55", x.of(0, 1), 55);
    }

    private static void sixLaws() {
        says("II, 10: LAWS, 6 at most; -5 (ahead of reading it; the TAPE is empty then, too)");
        Used x = Check.lone(50);
        due("a wrong one takes no number", Check.law(x, "tens"), -6);
        for (int i = 0; i < 6; i++) {
            due("so many", x.count(5), i);
            due("law " + i, Check.law(x, "tens " + (20 + i)), i);
            due("a wrong one", i == 5 ? -6 : Check.law(x, "tens"), -6);
        }
        due("six", x.count(5), 6);
        due("a seventh", Check.law(x, "tens 5"), -5);
        due("by status", x.status(), -5);
        due("its TAPE is empty", x.count(7), 0);
        due("a seventh that is wrong", Check.law(x, "tens"), -5);
        due("a seventh that is empty", x.law(), -5);
        due("six still", x.count(5), 6);
        due("refused by -5", x.count(11), 3);
        due("no law 6", x.force(6), -2);
        for (int i = 0; i < 6; i++) {
            x.force(i);
            due("each is as it was made", x.of(0, 4), 20 + i);
        }
    }

    private static void lawInForce() {
        says("II, 14: a LAW is in FORCE (NONE at first, NONE: none): which was; -2");
        Used x = Check.lone(50);
        due("at first", x.count(13), NONE);
        int[] wrong = {-2, 0, 1, 5, 6, MAX, MIN};
        for (int law : wrong) {
            due("without laws, " + law, x.force(law), -2);
            due("by status", x.status(), -2);
        }
        due("none", x.force(NONE), NONE);
        due("not refused", x.status(), 0);
        Check.law(x, "tens 20");
        due("not in force by being made", x.of(0, 4), 10);
        due("the second of one", x.force(1), -2);
        due("the first", x.force(0), NONE);
        due("not refused, though it tells -1", x.status(), 0);
        due("nor counted so", x.count(8), 0);
        due("by it", x.of(0, 4), 20);
        due("again", x.force(0), 0);
        due("the second of one", x.force(1), -2);
        due("-2", x.force(-2), -2);
        due("it stays", x.count(13), 0);
        due("none then", x.force(NONE), 0);
        due("by BY", x.of(0, 4), 10);
        due("-2 were", x.count(9), wrong.length + 3);
    }

    private static void tensNearest() {
        says("II: by as many as tens tells, 2 .. 99 (else the nearest), BY without");
        String[] told = {"0-1000*1000*1000", "0-1", "0", "1", "2", "3", "98", "99", "100", "1000", "1000*1000*1000"};
        int[] by = {2, 2, 2, 2, 2, 3, 98, 99, 99, 99, 99};
        for (int i = 0; i < told.length; i++) {
            due("tens " + told[i], byLaw("tens " + told[i], 999, 4), by[i]);
            due("over by tens " + told[i], byLaw("tens " + told[i], 999, 5), 999 % by[i]);
        }
        Used x = Check.lone(999);
        int[] terms = {2, 3, 98, 99};
        for (int by0 : terms) {
            x.terms(1, by0);
            due("BY " + by0, x.of(0, 4), by0);
            due("over by BY " + by0, x.of(0, 5), 999 % by0);
        }
        Check.rule(x, "stays 1;tens 5 if count < 999");
        due("without", x.of(0, 4), 99);
        x.grow(0, -1);
        due("with", x.of(0, 4), 5);
    }

    private static void lastThatHolds() {
        says("II: the last that HOLDS");
        due("of two", byLaw("tens 5;tens 6", 23, 4), 6);
        due("of two that differ", byLaw("tens 6;tens 5", 23, 4), 5);
        due("the first alone", byLaw("tens 5;tens 6 if 1=2", 23, 4), 5);
        due("the second of three", byLaw("tens 5;tens 6;tens 7 if 1=2", 23, 4), 6);
        due("others between", byLaw("tens 5;stays 1;tens 6;steps 2;bars", 23, 4), 6);
        due("neither", byLaw("tens 5 if 1=2;tens 6 if 1=2", 23, 4), 10);
        due("stays, the last", byLaw("stays 3;stays 1", 23, 6), 2);
        due("stays, the last that holds", byLaw("stays 1;stays 3 if 1=2", 23, 6), 2);
        due("steps, the last", byLaw("steps 3;steps 2", 23, 7), 2);
        due("steps, the last that holds", byLaw("steps 3;steps 2 if 1=2", 23, 7), 3);
        due("bars, any", byLaw("bars if 1=1;bars if 1=2", 23, 8), 1);
        due("bars, any other", byLaw("bars if 1=2;bars if 1=1", 23, 8), 1);
        due("bars, none", byLaw("bars if 1=2;bars if 1=2", 23, 8), 0);
    }

    private static void stays() {
        says("II: of them there may STAY 0 .. 98, no more than are OVER, none without");
        String[] told = {"0-1000*1000*1000", "0-1", "0", "1", "6", "7", "8", "98", "99", "1000*1000*1000"};
        int[] walkers = {7, 7, 7, 6, 1, 0, 0, 0, 0, 0};
        for (int i = 0; i < told.length; i++) {
            due("stays " + told[i], byLaw("stays " + told[i], 17, 6), walkers[i]);
            due("over all the same", byLaw("stays " + told[i], 17, 5), 7);
        }
        String[] many = {"97", "98", "99", "100"};
        int[] left = {1, 0, 0, 0};
        for (int i = 0; i < many.length; i++) {
            due("98 over, stays " + many[i], byLaw("tens 99;stays " + many[i], 98, 6), left[i]);
        }
        due("without", byLaw("bars", 17, 6), 7);
        due("nobody over", byLaw("stays 5", 20, 6), 0);
        Used x = Check.lone(17);
        Check.rule(x, "stays 6");
        due("one walks", x.reckon(0), 1);
        due("six stay", x.of(0, 1), 16);
    }

    private static void steps() {
        says("II: STEPS are 1 .. 9, 1 without");
        String[] told = {"0-1000*1000*1000", "0-1", "0", "1", "2", "8", "9", "10", "1000*1000*1000"};
        int[] days = {1, 1, 1, 1, 2, 8, 9, 9, 9};
        for (int i = 0; i < told.length; i++) {
            due("steps " + told[i], byLaw("steps " + told[i], 17, 7), days[i]);
            due("alone to the sea, " + told[i], byLaw("steps " + told[i], 17, 9), days[i]);
        }
        due("without", byLaw("bars", 17, 7), 1);
        Used x = new Used();
        for (int i = 0; i < 10; i++) {
            x.parish(i - 1, 5);
        }
        Check.rule(x, "steps parish");
        int together = 0;
        for (int p = 0; p < 10; p++) {
            together += Math.max(1, p);
            due("together from " + p, x.of(p, 9), together);
        }
        due("by who is over", byLaw("steps over", 27, 9), 7);
        due("by who is over by the law", byLaw("tens 6;steps over", 27, 9), 3);
    }

    private static void overInTens() {
        says("II: over, how many are OVER (tens: -1)");
        due("in its SUM", byLaw("tens 10+over", 23, 4), 9);
        due("in its TEST", byLaw("tens 5 if over = 0-1", 23, 4), 5);
        due("not 3 there", byLaw("tens 5 if over = 3", 23, 4), 10);
        due("3 for stays", byLaw("stays over-1", 23, 6), 1);
        due("3 for a TEST of stays", byLaw("stays 1 if over = 3", 23, 6), 2);
        due("3 for steps", byLaw("steps over", 23, 7), 3);
        due("3 for bars", byLaw("bars if over = 3", 23, 8), 1);
        due("by tens that stand behind", byLaw("stays over;tens 7", 23, 6), 0);
        due("by tens that are told", byLaw("steps over;tens 7", 23, 7), 2);
        due("0, if nobody is", byLaw("bars if over = 0", 20, 8), 1);
        due("98 at most", byLaw("tens 99;bars if over = 98", 98, 8), 1);
    }

    private static void belowAtSea() {
        says("II: below, what is BELOW it (-1: the SEA)");
        Used x = Check.lone(5);
        x.parish(0, 5);
        x.parish(1, 5);
        Check.rule(x, "tens below + 10;bars if below = 0-1");
        due("at the sea", x.of(0, 4), 9);
        due("above 0", x.of(1, 4), 10);
        due("above 1", x.of(2, 4), 11);
        due("-1 at the sea", x.of(0, 8), 1);
        due("not above", x.of(1, 8), 0);
        Check.rule(x, "tens depth + 10;steps parish + 3");
        due("depth 0", x.of(0, 4), 10);
        due("depth 2", x.of(2, 4), 12);
        due("parish 2", x.of(2, 7), 5);
        Check.rule(x, "tens day;steps mood");
        x.terms(0, 99);
        x.terms(3, 9);
        due("day", x.of(0, 4), 99);
        due("mood", x.of(0, 7), 9);
    }

    private static void times() {
        says("II: TIMES, a NUMBER 1 .. 20 (once without)");
        orders("pass times 0", 11);
        orders("pass times 1", NONE);
        orders("pass times 20", NONE);
        orders("pass times 21", 11);
        orders("pass times 1000", 11);
        orders("pass times 4294967297", 11);
        orders("pass times 020", NONE);
        orders("pass times 00", 11);
        orders("pass times [2]", 11);
        orders("pass times day", 11);
        orders("pass times 2+1", 12);
        int[] well = {1, 2, 19, 20};
        for (int n : well) {
            Used x = new Used();
            due("run " + n + " times", Check.orders(x, "pass times " + n), n);
            due("days", x.count(14), n);
        }
        Used x = new Used();
        due("once", Check.orders(x, "pass"), 1);
        due("a day", x.count(14), 1);
        due("each time its if is asked", Check.orders(x, "pass times 20 if day < 5"), 4);
        due("up to the fifth", x.count(14), 5);
        due("twelve times 20", Check.orders(x, Check.times(12, "pass times 20", ";")), 240);
        due("240 days more", x.count(14), 245);
    }

    private static void numbersOfParishes() {
        says("II: P, a NUMBER 0 .. 9; count, over: -1 without such a PARISH");
        orders("reckon count 0", NONE);
        orders("reckon count 9", NONE);
        orders("reckon count 10", 13);
        orders("reckon over 9", NONE);
        orders("reckon over 10", 12);
        orders("reckon count 09", NONE);
        orders("reckon count 010", 13);
        orders("reckon count 4294967296", 13);
        orders("reckon count", 12);
        orders("reckon over+1", 11);
        orders("reckon count [1]", 13);
        orders("reckon count count 1", 13);
        Used x = Check.lone(53);
        due("none yet", Check.orders(x, "grow 0 by count 1 + over 1"), 1);
        due("by -2", x.of(0, 1), 51);
        due("of one that is there", Check.orders(x, "grow 0 by over 0"), 1);
        due("by 1", x.of(0, 1), 52);
        for (int i = 1; i < 10; i++) {
            due("without " + i, Check.orders(x, "pass if count " + i + "=0-1 and over " + i + "=0-1"), 1);
            x.parish(0, 60 + i);
            due("with " + i, Check.orders(x, "pass if count " + i + "=60+" + i + " and over " + i + "=" + i), 1);
        }
        Used y = Check.lone(0);
        due("0 is not -1", Check.orders(y, "pass if count 0=0 and over 0=0"), 1);
        Check.rule(y, "tens 7");
        y.grow(0, 13);
        due("over by the law", Check.orders(y, "pass if over 0=6"), 1);
    }

    private static void doneAndLatest() {
        says("II: done, how many were run in this TEXT; latest, how many walked by the latest reckoning in it (-1: none)");
        Used x = Check.lone(57);
        due("done", Check.orders(x, "pass if done=0;pass if done=2;pass if done=1;pass times 9 if done<5"), 5);
        due("done by a SUM", Check.orders(x, "pass times 2;grow 0 by done;pass;grow 0 by 0-done/2"), 5);
        due("2 more, 2 fewer", x.of(0, 1), 57);
        due("anew in each TEXT", Check.orders(x, "pass if done=0"), 1);
        due("latest, none", Check.orders(x, "pass if latest=0-1;pass;pass if latest=0-1"), 3);
        due("latest", Check.orders(x, "reckon 0;pass if latest=7;reckon 0;pass if latest=0;pass if latest=7"), 4);
        due("none again", Check.orders(x, "pass if latest=0-1"), 1);
        x.grow(0, 3);
        due("not by what is not run", Check.orders(x, "reckon 0 if 1=2;pass if latest=0-1"), 1);
        x.reckon(0);
        due("not by reckon()", Check.orders(x, "pass if latest=0-1"), 1);
        due("a day aside", Check.orders(x, "grow 0 by 4;reckon 0;pass;grow 0 by latest"), 4);
        due("as many again", x.of(0, 1), 54);
    }

    private static void whatWalksAndSea() {
        says("II: sea: SEA, walking: how many walk, day: DAY");
        Used x = Check.lone(57);
        due("nothing yet", Check.orders(x, "pass if sea=0 and walking=0 and day=0"), 1);
        x.reckon(0);
        due("they walk", Check.orders(x, "pass if sea=0 and walking=7 and day=1"), 1);
        due("they came", Check.orders(x, "pass if sea=7 and walking=0 and day=2"), 1);
        x.terms(0, 998);
        due("the last day", Check.orders(x, "pass if day=998;grow 0 by 1 if day=999"), 2);
    }

    private static void whollyOrNotAtAll() {
        says("II: one that can't be ends it: all is as it was ahead of it");
        String[] wrong = {"reckon 2", "reckon 0-1", "reckon 1", "lend 0 to 0", "lend 0 to 2", "lend 2 to 0",
            "lend 1 to 0 times 20", "grow 0 by 100", "grow 2 by 1", "grow 1 by 0-20", "grow 0 by 99 times 20",
            "pass times 6", "reckon 1/0"};
        for (String text : wrong) {
            Used x = Check.lone(33);
            x.parish(0, 14);
            Check.rule(x, "bars if parish=1");
            x.terms(0, 994);
            x.grow(0, 1);
            x.reckon(0);
            String was = Check.seen(x);
            due("ahead of " + text, Check.orders(x, "grow 0 by 5;reckon 0;lend 1 to 0;" + text + ";pass"), -3);
            due("by status", x.status(), -3);
            due("which", x.stopped(), 3);
            due("the TAPE is empty", x.count(7), 0);
            due("as it was ahead of " + text, Check.seen(x).equals(was) ? 1 : 0, 1);
            due("refused once", x.count(8) + x.count(9) + x.count(10) + x.count(11), 1);
            due("what can be undone is", x.undo(), 0);
            due("and ahead of that", x.undo(), 3);
            due("and no more", x.undo(), -3);
        }
        Used x = Check.lone(33);
        x.terms(0, 994);
        due("five days can be", Check.orders(x, "pass times 5"), 5);
    }

    private static void stoppedAt() {
        says("13: which CLAUSE of the latest orders() could not be; NONE");
        Used x = Check.lone(33);
        due("ahead of any", x.stopped(), NONE);
        for (int n = 0; n < 12; n++) {
            String text = Check.times(n, "pass", ";") + (n > 0 ? ";" : "") + "reckon 5"
                    + (n < 11 ? ";" : "") + Check.times(11 - n, "pass", ";");
            due("orders", Check.orders(x, text), -3);
            due("stopped", x.stopped(), n);
        }
        due("day", x.count(14), 0);
        x.law();
        x.reckon(5);
        due("law(), reckon() aside", x.stopped(), 11);
        due("faulty ones", Check.orders(x, "pass x"), -6);
        due("could be read no farther", x.stopped(), NONE);
        Check.orders(x, "reckon 5");
        due("the first", x.stopped(), 0);
        due("none to run", Check.orders(x, "reckon 5 if 1=2"), 0);
        due("none could not be", x.stopped(), NONE);
        Check.orders(x, "pass;lend 0 to 0 times 9");
        due("the second", x.stopped(), 1);
        x.orders();
        due("an empty one", x.stopped(), NONE);
    }
}
