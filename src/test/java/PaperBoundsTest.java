/**
 * The boundaries of what Terms III work out on paper, and of promises 20 to
 * 24 and 27 to 30: at each of them, one short of it, one beyond it.
 */
public final class PaperBoundsTest extends Bounds {
    private static final long WHOLE = 1000000000000L;

    private PaperBoundsTest() {
    }

    public static void main(String[] args) {
        onceWhom();
        onceTo999();
        onceHighestFirst();
        onceBarredAside();
        onceGroupsAside();
        onceCountAsItBecomes();
        onPaper();
        askedAnew();
        fewestWhat();
        fewestLowest();
        fewestOfTen();
        fewestTo999();
        fewestBarred();
        lentWhat();
        lentWhicheverIsLess();
        lentAllTheWayUp();
        lentNothing();
        lentLawsAside();
        oddsWhat();
        oddsDays();
        oddsFollow();
        oddsOfRate();
        oddsCut();
        bestWhat();
        bestFromTwoTo99();
        bestInPlaceOfTens();
        hiddenWhat();
        hiddenThereIsOne();
        hiddenAllHeard();
        hiddenOfBarred();
        lookWhat();
        lookLowest();
        movedWhom();
        movedWhere();
        flowWhat();
        flowDays();
        flowBehind999();
        flowSixteen();
        flowByNumbers();
        Check.end("PaperBoundsTest");
    }

    private static void onceWhom() {
        says("20: parish NONE, a PARISH; NONE (no such PARISH)");
        Used x = inARow(4, 3);
        due("to the sea", x.once(NONE), 7);
        due("from 0", x.once(0), 7);
        due("from 1", x.once(1), 3);
        int[] none = {-2, 2, 9, 10, MAX, MIN};
        for (int parish : none) {
            due("from " + parish, x.once(parish), NONE);
        }
        due("that is not REFUSED", x.status(), 0);
        Used ten = inARow(1, 1, 1, 1, 1, 1, 1, 1, 1, 1);
        for (int p = 0; p < 10; p++) {
            due("of ten, from " + p, ten.once(p), (10 - p) % 10);
        }
        due("of ten, from 10", ten.once(10), NONE);
    }

    private static void onceTo999() {
        says("III: AT ONCE, COUNT 999 at most");
        int[] before = {989, 990, 991, 999};
        int[] walk = {8, 9, 9, 9};
        for (int i = 0; i < before.length; i++) {
            Used x = inARow(before[i], 9);
            due("9 come to " + before[i], x.once(0), walk[i]);
            due("to the sea", x.once(NONE), walk[i]);
        }
    }

    private static void onceHighestFirst() {
        says("III: AT ONCE, all PARISHES reckoned, the highest number first");
        Used x = inARow(5, 5, 5);
        due("from 2", x.once(2), 5);
        due("from 1: 5 and 5", x.once(1), 0);
        due("from 0: 5 and none", x.once(0), 5);
        Used y = new Used();
        int[] below = {NONE, 0, 0, 1, 2, NONE};
        int[] counts = {3, 4, 8, 7, 6, 9};
        for (int i = 0; i < 6; i++) {
            y.parish(below[i], counts[i]);
        }
        int[] walk = {8, 1, 4, 7, 6, 9};
        for (int p = 0; p < 6; p++) {
            due("where valleys join, from " + p, y.once(p), walk[p]);
        }
        due("to the sea by both", y.once(NONE), 17);
    }

    private static void onceBarredAside() {
        says("III: BARRED ones aside");
        Used x = inARow(5, 4, 3);
        Check.rule(x, "bars if parish=1");
        due("from 2", x.once(2), 3);
        due("from 1", x.once(1), 0);
        due("from 0", x.once(0), 5);
        Check.rule(x, "bars");
        due("from 2, all barred", x.once(2), 0);
        due("to the sea, all barred", x.once(NONE), 0);
        // By what it has as its turn comes: 4 and 3 are 7.
        Check.rule(x, "bars if count=7");
        due("barred by who comes", x.once(1), 0);
        due("0 is not", x.once(0), 5);
        Check.rule(x, "bars if count=4");
        due("free by who comes", x.once(1), 7);
    }

    private static void onceGroupsAside() {
        says("III: GROUPS aside");
        Used x = atSea(1, 2, 3, 4, 5, 6, 7, 8, 9, 9);
        x.parish(NONE, 1);
        Check.rule(x, "steps 9");
        for (int g = 0; g < 16; g++) {
            int p = g % 9;
            if (g >= 9) {
                x.grow(p, 3);
            }
            due("walk", x.reckon(p) > 0 ? 1 : 0, 1);
        }
        due("no room", x.reckon(9), -5);
        due("on paper there is", x.once(9), 9);
        due("to the sea from there alone", x.once(NONE), 9);
        due("fewest", x.fewest(0), 9);
        due("a birth there moves it", x.moved(9), 1 << 9);
    }

    private static void onceCountAsItBecomes() {
        says("III: COUNT and WALKED in laws as they become");
        Used x = inARow(5, 4);
        Check.rule(x, "tens 9 if count=9;tens 8 if walked>0;tens 5 if walked=0 and count=5");
        due("4 and 5 are a ten of 9", x.once(0), 0);
        x.reckon(1);
        due("from 1 nobody, who are 0", x.once(1), 0);
        due("0 has 5 by 5", x.once(0), 0);
        x.grow(1, 9);
        due("1 has 9 by 8, as it walked", x.once(1), 1);
        due("0 has 6 by BY", x.once(0), 6);
    }

    private static void onPaper() {
        says("III: on paper");
        Used x = inARow(25, 14, 7);
        Check.rule(x, "steps 2");
        x.reckon(2);
        x.hear(0, 3);
        String was = Check.seen(x);
        x.once(NONE);
        x.fewest(0);
        x.lent(0);
        x.odds(0, 60, 5);
        x.best(0);
        x.hidden(NONE);
        x.look(0);
        x.moved(0);
        x.flow(60, 0);
        x.years(0, 100);
        due("all as it was", Check.seen(x).equals(was) ? 1 : 0, 1);
        due("they walk on", x.pass(), 0);
        due("and come", x.pass(), 7);
    }

    private static void askedAnew() {
        says("III: each asked anew");
        Used x = inARow(5, 5, 0);
        Check.rule(x, "steps 9");
        due("one ahead", x.fewest(1), 2);
        due("groups", x.flow(2, 2), 2);
        due("moved", x.moved(1), 3);
        due("hidden", x.hidden(NONE), 2);
        x.force(NONE);
        x.grow(1, 5);
        due("nobody ahead", x.fewest(1), 0);
        due("five", x.fewest(0), 5);
        due("no groups", x.flow(2, 2), 0);
        due("five come", x.flow(2, 1), 5);
        due("moved then", x.moved(2), 7);
        x.grow(0, -5);
        due("hidden then", x.hidden(NONE), 1);
        due("no day", x.flow(60, 0), 0);
        due("nobody", x.flow(60, 1), 0);
        due("lent", x.lent(0), 0);
        x.grow(2, 1);
        x.grow(0, 9);
        due("lent then", x.lent(0), 2);
        due("look", x.look(0), 1);
        due("two left", x.look(1), 2);
        Used y = Check.lone(25);
        due("best", y.best(0), 5);
        y.grow(0, -1);
        due("best then", y.best(0), 2);
        y.grow(0, -23);
        due("best of one", y.best(1), 1);
        Used z = Check.lone(7);
        due("fewest without a law", z.fewest(0), 7);
        Check.rule(z, "stays 2");
        due("fewest by a law, as many being there", z.fewest(0), 5);
        z.force(NONE);
        z.moved(0);
        due("fewest behind what else is asked", z.fewest(0), 7);
    }

    private static void fewestWhat() {
        says("21: what 0, 1; NONE");
        Used x = inARow(5, 5);
        due("how many", x.fewest(0), 5);
        due("who", x.fewest(1), 2);
        int[] wrong = {-1, 2, MAX, MIN};
        for (int what : wrong) {
            due("what " + what, x.fewest(what), NONE);
        }
    }

    private static void fewestLowest() {
        says("III: FEWEST; the lowest as bits");
        Used x = new Used();
        x.parish(NONE, 5);
        x.parish(0, 5);
        x.parish(0, 5);
        due("one of two alike", x.fewest(0), 10);
        due("the lower one", x.fewest(1), 2);
        Used y = new Used();
        y.parish(NONE, 2);
        y.parish(0, 4);
        y.parish(0, 4);
        due("both together", y.fewest(0), 8);
        due("as bits", y.fewest(1), 6);
        Used z = inARow(3, 4);
        due("ahead is worse: 7 and 4", z.fewest(0), 7);
        due("nobody is ahead", z.fewest(1), 0);
        Used none = inARow(3, 0);
        due("alike", none.fewest(0), 3);
        due("nobody is ahead then, too", none.fewest(1), 0);
        says("III: FEWEST, sets of PARISHES that have one BELOW");
        Used sea = atSea(4, 5);
        due("both at the sea", sea.fewest(0), 9);
        due("nobody can be ahead", sea.fewest(1), 0);
    }

    private static void fewestOfTen() {
        says("III: FEWEST of all sets");
        Used x = new Used();
        x.parish(NONE, 1);
        for (int i = 1; i < 10; i++) {
            x.parish(0, 1);
        }
        due("all nine ahead", x.fewest(0), 9);
        due("all bits but the first", x.fewest(1), 1022);
        Used y = inARow(5, 5, 5, 5, 5, 5, 5, 5, 5, 5);
        // Every second one goes ahead of the next, which then has ten.
        due("five pairs", y.fewest(0), 25);
        due("the lowest pairs", y.fewest(1), 2 + 8 + 32 + 128 + 512);
        Used z = inARow(9, 0, 0, 0, 0, 0, 0, 0, 0, 1);
        due("all the way down", z.fewest(0), 9);
        due("all of them ahead", z.fewest(1), 1022);
    }

    private static void fewestTo999() {
        says("III: FEWEST, COUNT 999 at most");
        Used x = inARow(991, 9);
        due("999 is no ten", x.fewest(0), 10);
        due("nobody is ahead", x.fewest(1), 0);
        Used y = inARow(989, 9);
        due("998 is one fewer", y.fewest(0), 17);
        due("1 is ahead", y.fewest(1), 2);
        Used z = inARow(981, 9);
        due("990 is a ten", z.fewest(0), 9);
        due("1 is ahead then", z.fewest(1), 2);
    }

    private static void fewestBarred() {
        says("III: FEWEST, BARRED ones aside");
        Used x = inARow(5, 5);
        Check.rule(x, "bars if parish=1");
        due("only 0 walks", x.fewest(0), 5);
        due("nobody is ahead", x.fewest(1), 0);
        Check.rule(x, "bars if count>9");
        due("0 is barred by who comes", x.fewest(0), 5);
        due("1 is ahead", x.fewest(1), 2);
        Check.rule(x, "stays 4 if count=5;stays 6 if count=6");
        due("asked as it becomes", x.fewest(0), 1);
        due("1 is ahead, so that 6 stay", x.fewest(1), 2);
    }

    private static void lentWhat() {
        says("22: what 0, 1 + p; NOTHING");
        Used x = inARow(6, 2, 2);
        int[] want = {6, 0, 4, 2};
        for (int what = 0; what < 4; what++) {
            due("what " + what, x.lent(what), want[what]);
        }
        int[] wrong = {-1, 4, 10, 11, MAX, MIN};
        for (int what : wrong) {
            due("what " + what, x.lent(what), NOTHING);
        }
        Used ten = inARow(0, 0, 0, 0, 0, 0, 0, 0, 9, 1);
        due("the tenth", ten.lent(10), 1);
        due("no eleventh", ten.lent(11), NOTHING);
        due("together", ten.lent(0), 1);
    }

    private static void lentOf(int by, int count, int want) {
        Used x = new Used();
        x.terms(1, by);
        x.parish(NONE, (by - count % by) % by + by);
        x.parish(0, count);
        due(count + " by " + by + ", down", x.lent(2), want);
        due(count + " by " + by + ", together", x.lent(0), Math.abs(want));
        due("nothing to the sea", x.lent(1), 0);
    }

    private static void lentWhicheverIsLess() {
        says("III: LENT, down, or up what is missing, whichever is less (alike: down)");
        int[] tens = {0, 1, 2, 3, 4, 5, -4, -3, -2, -1, 0, 1};
        for (int count = 0; count < tens.length; count++) {
            lentOf(10, count, tens[count]);
        }
        lentOf(10, 995, 5);
        lentOf(10, 996, -4);
        lentOf(10, 999, -1);
        lentOf(7, 3, 3);
        lentOf(7, 4, -3);
        lentOf(2, 0, 0);
        lentOf(2, 1, 1);
        lentOf(3, 1, 1);
        lentOf(3, 2, -1);
        lentOf(99, 49, 49);
        lentOf(99, 50, -49);
        lentOf(98, 49, 49);
        lentOf(98, 50, -48);
    }

    private static void lentAllTheWayUp() {
        says("III: LENT, of each PARISH what all it and those above it (all the way up) leave");
        Used x = new Used();
        int[] below = {NONE, 0, 1, 2, 1, NONE};
        int[] counts = {10, 3, 4, 6, 7, 20};
        for (int i = 0; i < 6; i++) {
            x.parish(below[i], counts[i]);
        }
        // 3: 6, up 4. 2: 10. 4: 7, up 3. 1: 3 and 10 and 7 are 20. 0: 30.
        int[] want = {7, 0, 0, 0, -4, -3, 0};
        for (int what = 0; what < 7; what++) {
            due("lent(" + what + ")", x.lent(what), want[what]);
        }
        Used most = inARow(999, 999, 999, 999, 999, 999, 999, 999, 999, 999);
        due("9990 together", most.lent(0), 1 + 2 + 3 + 4 + 5 + 4 + 3 + 2 + 1);
        due("five of them", most.lent(6), 5);
        due("six of them", most.lent(5), 4);
    }

    private static void lentNothing() {
        says("22: NOTHING (a PARISH at the SEA would have some OVER)");
        for (int count = 0; count <= 11; count++) {
            Used x = Check.lone(count);
            due(count + " at the sea", x.lent(0), count % 10 == 0 ? 0 : NOTHING);
            due("of it", x.lent(1), count % 10 == 0 ? 0 : NOTHING);
        }
        Used x = atSea(10, 20, 9);
        due("one of three", x.lent(0), NOTHING);
        due("of another", x.lent(1), NOTHING);
        x.grow(2, 1);
        due("none of three", x.lent(0), 0);
        x.terms(1, 20);
        due("by another BY", x.lent(0), NOTHING);
        due("none at all", new Used().lent(0), 0);
    }

    private static void lentLawsAside() {
        says("III: LENT, OVER by BY (laws aside)");
        Used x = inARow(6, 4);
        Check.rule(x, "tens 7;stays 3;bars");
        due("by BY", x.lent(0), 4);
        x.terms(1, 7);
        due("by another BY", x.lent(0), NOTHING);
        x.terms(1, 5);
        due("by five", x.lent(2), -1);
        x.reckon(0);
        x.force(NONE);
        x.reckon(1);
        due("who walks is aside", x.lent(0), NOTHING);
    }

    private static void oddsWhat() {
        says("23: n days 0 .. 60, so many 0 .. 98 OVER; NONE");
        Used x = atSea(7, 3);
        int[] days = {-1, 61, MAX, MIN};
        for (int n : days) {
            due("n " + n, x.odds(0, n, 7), NONE);
        }
        due("n 0", x.odds(0, 0, 7), WHOLE);
        due("n 60", x.odds(0, 60, 7) > 0 ? 1 : 0, 1);
        int[] overs = {-1, 99, MAX, MIN};
        for (int over : overs) {
            due("over " + over, x.odds(0, 0, over), NONE);
        }
        due("over 0", x.odds(0, 0, 0), 0);
        due("over 9", x.odds(0, 0, 9), 0);
        due("over 10, which can't be", x.odds(0, 60, 10), 0);
        due("over 98, which can't be", x.odds(0, 60, 98), 0);
        int[] none = {-1, 2, 9, 10, MAX, MIN};
        for (int parish : none) {
            due("of " + parish, x.odds(parish, 0, 7), NONE);
        }
        due("of 1", x.odds(1, 0, 3), WHOLE);
        due("that is not REFUSED", x.status(), 0);
        Check.rule(x, "tens 99");
        x.grow(0, 91);
        due("98 of 99", x.odds(0, 0, 98), WHOLE);
    }

    private static void oddsDays() {
        says("III: ODDS behind n days");
        Used x = Check.lone(0);
        x.terms(2, 10);
        Check.rule(x, "tens 99");
        int[] days = {0, 1, 2, 59, 60};
        for (int n : days) {
            due("one each day, " + n, x.odds(0, n, n), WHOLE);
            due("no fewer, " + n, n == 0 ? 0 : x.odds(0, n, n - 1), 0);
            due("no more, " + n, x.odds(0, n, n + 1), 0);
        }
    }

    private static void oddsFollow() {
        says("III: ODDS, by as many as are had, 0 follows the greatest");
        int[] by = {2, 3, 10, 98, 99};
        for (int tens : by) {
            Used x = Check.lone(tens - 1);
            x.terms(2, 10);
            Check.rule(x, "tens " + tens);
            due("the greatest by " + tens, x.odds(0, 0, tens - 1), WHOLE);
            due("0 by " + tens, x.odds(0, 1, 0), WHOLE);
            due("not the greatest by " + tens, x.odds(0, 1, tens - 1), 0);
            due("1 by " + tens, x.odds(0, 2, 1), WHOLE);
            due("around by " + tens, x.odds(0, 60, 59 % tens), WHOLE);
        }
        Used most = Check.lone(999);
        most.terms(2, 10);
        due("from 999 on, too", most.odds(0, 1, 0), WHOLE);
        says("III: ODDS, by what the law tells now");
        Check.rule(most, "tens 7 if count=999;bars");
        due("999 by 7", most.odds(0, 0, 5), WHOLE);
        due("two days on", most.odds(0, 2, 0), WHOLE);
    }

    private static void oddsOfRate() {
        says("III: ODDS, one being born in RATE of ten each day");
        for (int rate = 0; rate <= 10; rate++) {
            Used x = Check.lone(7);
            x.terms(2, rate);
            due("born, rate " + rate, x.odds(0, 1, 8), WHOLE / 10 * rate);
            due("not born, rate " + rate, x.odds(0, 1, 7), WHOLE / 10 * (10 - rate));
            due("two born, rate " + rate, x.odds(0, 2, 9), WHOLE / 100 * rate * rate);
            due("one of two, rate " + rate, x.odds(0, 2, 8), WHOLE / 100 * 2 * rate * (10 - rate));
            due("never fewer, rate " + rate, x.odds(0, 1, 6), 0);
        }
        Used x = Check.lone(7);
        x.terms(2, 0);
        due("never", x.odds(0, 60, 7), WHOLE);
        due("nobody", x.odds(0, 60, 8), 0);
    }

    private static void oddsCut() {
        says("III: ODDS, day by day, each cut");
        Used x = Check.lone(0);
        x.terms(2, 1);
        Check.rule(x, "tens 99");
        // Nine tenths each day: 9^12 is whole, from the thirteenth day on it is cut.
        due("twelve days", x.odds(0, 12, 0), 282429536481L);
        due("thirteen days", x.odds(0, 13, 0), 254186582832L);
        due("fourteen days", x.odds(0, 14, 0), 228767924548L);
        due("fifteen days", x.odds(0, 15, 0), 205891132093L);
        x.terms(2, 9);
        due("one tenth, twelve days", x.odds(0, 12, 0), 1);
        due("one tenth, thirteen days", x.odds(0, 13, 0), 0);
        due("it does not come back", x.odds(0, 60, 0), 0);
        due("nine tenths, thirteen days", x.odds(0, 13, 13), 254186582832L);
    }

    private static void bestWhat() {
        says("24: what 0, 1; NONE");
        Used x = Check.lone(7);
        due("the ten", x.best(0), 7);
        due("how many", x.best(1), 0);
        int[] wrong = {-1, 2, MAX, MIN};
        for (int what : wrong) {
            due("what " + what, x.best(what), NONE);
        }
    }

    private static void bestFromTwoTo99() {
        says("III: THE TEN, of all numbers 2 .. 99; the lowest");
        due("one man: all alike", Check.lone(1).best(0), 2);
        due("he comes", Check.lone(1).best(1), 1);
        due("nobody", Check.lone(0).best(0), 2);
        due("three", Check.lone(3).best(0), 3);
        due("ninety-seven", Check.lone(97).best(0), 97);
        due("six by 2, 3, 6", Check.lone(6).best(0), 2);
        due("nine by 3, 9", Check.lone(9).best(0), 3);
        // 197 is a prime: only by 99 are 98 over, all of whom stay.
        Used x = Check.lone(197);
        Check.rule(x, "stays 98 if over=98");
        due("99 is the last", x.best(0), 99);
        due("nobody comes by it", x.best(1), 0);
        Check.rule(x, "stays 98 if over=99");
        due("100 is none", x.best(0), 2);
        due("one comes by two", x.best(1), 1);
        Check.rule(x, "stays 0 if over=1;stays 9 if over=2;stays 1 if over=1 and day=5");
        due("3 is lower than 5", x.best(0), 3);
        due("25 by 5, 25", Check.lone(25).best(0), 5);
        // By 3 and by 7 one comes, by others more.
        Used y = atSea(7, 15);
        due("together the fewest", y.best(1), 1);
        due("the lowest of them", y.best(0), 3);
    }

    private static void bestInPlaceOfTens() {
        says("III: THE TEN in place of TENS of all PARISHES");
        Used x = inARow(8, 13);
        Check.rule(x, "tens 4;stays 1 if over=3");
        // By 2: 1 walks down, 9 leave 1. By 3: 1 walks down, 9 leave none.
        due("the law's tens aside", x.best(0), 3);
        due("nobody comes", x.best(1), 0);
        Check.rule(x, "tens 4;bars if parish=0 and over<2");
        due("the rest of the law stands", x.best(0), 2);
        due("0 is barred then", x.best(1), 0);
    }

    private static void hiddenWhat() {
        says("27: how many (i NONE), the i-th; NONE");
        Used x = atSea(5, 0, 6);
        due("how many", x.hidden(NONE), 2);
        due("the first", x.hidden(0), 0);
        due("the second", x.hidden(1), 2);
        int[] wrong = {-2, 2, 3, 10, MAX, MIN};
        for (int i : wrong) {
            due("the i-th, " + i, x.hidden(i), NONE);
        }
        Used ten = atSea(1, 1, 1, 1, 1, 1, 1, 1, 1, 1);
        due("ten", ten.hidden(NONE), 10);
        due("the tenth", ten.hidden(9), 9);
        due("no eleventh", ten.hidden(10), NONE);
        ten.hear(9, 0);
        due("by what is heard of the last", ten.hidden(NONE), 1);
        due("it is the last", ten.hidden(0), 9);
    }

    private static void hiddenThereIsOne() {
        says("III: HIDDEN, one man fewer (there is one)");
        due("of 0", Check.lone(0).hidden(NONE), 0);
        due("of 1", Check.lone(1).hidden(NONE), 1);
        due("of 999", Check.lone(999).hidden(NONE), 1);
        Used x = inARow(0, 3);
        due("0 has none, though three come", x.hidden(NONE), 1);
        due("1 has", x.hidden(0), 1);
        x.hear(0, 2);
        due("two come then", x.hidden(NONE), 1);
        x.hear(0, 3);
        due("not three", x.hidden(NONE), 0);
    }

    private static void hiddenAllHeard() {
        says("III: HIDDEN, AT ONCE so many are OVER as each is reckoned");
        Used x = inARow(5, 14);
        x.hear(1, 3);
        due("one died in 1", x.hidden(0), 1);
        due("one can have", x.hidden(NONE), 1);
        x.hear(0, 8);
        due("3 came to 5", x.hidden(NONE), 1);
        x.hear(0, 5);
        due("none came to 5", x.hidden(NONE), 0);
        x.forget();
        x.hear(0, 8);
        due("8 by either", x.hidden(NONE), 2);
        x.hear(1, 4);
        due("4 in 1: it was in 0", x.hidden(NONE), 1);
        due("in 0", x.hidden(0), 0);
        x.forget();
        x.hear(0, 9);
        due("9 is if nobody died", x.hidden(NONE), 0);
        Used y = Check.lone(10);
        y.hear(0, 9);
        due("9 by one fewer than a ten", y.hidden(NONE), 1);
    }

    private static void hiddenOfBarred() {
        says("III: HIDDEN, of BARRED ones how many are OVER at the end");
        Used x = inARow(3, 15);
        Check.rule(x, "bars if parish=0");
        x.hear(0, 7);
        due("who came is among them", x.hidden(NONE), 2);
        x.hear(1, 4);
        due("4 in 1", x.hidden(NONE), 1);
        due("it was there", x.hidden(0), 1);
        x.forget();
        x.hear(0, 2);
        due("not as it was ahead of them", x.hidden(NONE), 0);
        Check.rule(x, "bars");
        due("nobody came: one fewer of 3", x.hidden(NONE), 1);
        due("it was in 0", x.hidden(0), 0);
        x.hear(1, 5);
        due("5 in 1", x.hidden(NONE), 1);
    }

    private static void lookWhat() {
        says("28: what 0, 1; NONE (none HIDDEN)");
        Used x = atSea(5, 5, 5);
        due("the PARISH", x.look(0), 0);
        due("left at most", x.look(1), 2);
        int[] wrong = {-1, 2, MAX, MIN};
        for (int what : wrong) {
            due("what " + what, x.look(what), NONE);
        }
        x.hear(0, 5);
        due("behind that, the PARISH", x.look(0), 1);
        due("behind that, left", x.look(1), 1);
        x.hear(1, 5);
        due("only 2 is left", x.look(0), 0);
        due("one", x.look(1), 1);
        x.hear(2, 5);
        due("none HIDDEN", x.look(0), NONE);
        due("none left", x.look(1), NONE);
        Used empty = atSea(0, 0);
        due("nobody could die", empty.look(0), NONE);
        due("none left of them", empty.look(1), NONE);
    }

    private static void lookLowest() {
        says("III: to HEAR next, the most alike as few as can be; the lowest");
        Used ten = atSea(1, 1, 1, 1, 1, 1, 1, 1, 1, 1);
        due("all alike: the lowest", ten.look(0), 0);
        due("nine at most", ten.look(1), 9);
        // Deaths in 1, 2, 3 (4 by BY) leave 0 with other numbers: 1 and 2 join above it.
        Used x = new Used();
        x.parish(NONE, 0);
        x.parish(NONE, 3);
        x.parish(1, 3);
        x.parish(1, 3);
        // In 1 all three tell alike; 2 and 3 tell one apart from two each.
        due("2 before 3", x.look(0), 2);
        due("two left", x.look(1), 2);
        x.hear(2, 3);
        due("then 3", x.look(0), 3);
        due("one left", x.look(1), 1);
        Used last = new Used();
        last.parish(NONE, 0);
        last.parish(0, 0);
        last.parish(1, 3);
        last.parish(1, 3);
        due("the third tells most", last.look(0), 2);
        due("one left then", last.look(1), 1);
    }

    private static void movedWhom() {
        says("29: NONE (no such one; COUNT 999)");
        Used x = atSea(997, 998, 999);
        due("997", x.moved(0), 1);
        due("998", x.moved(1), 2);
        due("999", x.moved(2), NONE);
        int[] none = {-1, 3, 9, 10, MAX, MIN};
        for (int parish : none) {
            due("of " + parish, x.moved(parish), NONE);
        }
        due("that is not REFUSED", x.status(), 0);
    }

    private static void movedWhere() {
        says("III: MOVED, PARISHES from which AT ONCE another number walks");
        Used x = inARow(0, 0, 0, 0, 0, 0, 0, 0, 0, 0);
        for (int p = 0; p < 10; p++) {
            due("all the way from " + p, x.moved(p), (1 << p + 1) - 1);
        }
        Check.rule(x, "bars if parish=5");
        due("to 5, who is barred", x.moved(9), 1023 - 63);
        due("in 5 itself", x.moved(5), 0);
        Check.rule(x, "stays over");
        due("all stay", x.moved(9), 0);
        Check.rule(x, "stays 1");
        due("the one stays", x.moved(9), 0);
        Used full = inARow(999, 0);
        due("999 at most below: as many walk from there", full.moved(1), 2);
        Used nearly = inARow(998, 0);
        due("998: one more walks", nearly.moved(1), 3);
        Used ten = inARow(9, 9);
        due("a ten stays, and 9 alone below", ten.moved(1), 3);
        due("9 and 9 are 18, 10 and 9 are 19", ten.moved(0), 1);
    }

    private static void flowWhat() {
        says("30: n DAYS 1 .. 60, what 0 .. 2; NONE");
        Used x = Check.lone(5);
        due("the first", x.flow(1, 0), 1);
        due("how many", x.flow(1, 1), 5);
        due("groups", x.flow(1, 2), 0);
        due("sixty", x.flow(60, 1), 5);
        int[] days = {0, -1, 61, MAX, MIN};
        for (int n : days) {
            for (int what = 0; what < 3; what++) {
                due("n " + n, x.flow(n, what), NONE);
            }
        }
        int[] wrong = {-1, 3, MAX, MIN};
        for (int what : wrong) {
            due("what " + what, x.flow(1, what), NONE);
        }
        due("that is not REFUSED", x.status(), 0);
    }

    private static void flowDays() {
        says("30: the first (1 on) on which some come to the SEA (0: none)");
        Used x = Check.lone(5);
        Check.rule(x, "steps 9");
        due("not in eight", x.flow(8, 0), 0);
        due("none in eight", x.flow(8, 1), 0);
        due("on the ninth", x.flow(9, 0), 9);
        due("five in nine", x.flow(9, 1), 5);
        due("still on the ninth", x.flow(60, 0), 9);
        Check.rule(x, "bars if day<59");
        due("not in 59", x.flow(59, 0), 0);
        due("on the sixtieth", x.flow(60, 0), 60);
        due("five in sixty", x.flow(60, 1), 5);
        Check.rule(x, "bars if day<60");
        due("not in sixty", x.flow(60, 0), 0);
        Used y = inARow(0, 5);
        due("by way of 0", y.flow(60, 0), 2);
        due("not on the first day", y.flow(1, 0), 0);
        due("nobody over", Check.lone(10).flow(60, 0), 0);
        due("one man is some", Check.lone(1).flow(60, 0), 1);
        says("III: in DAYS to come, GROUPS as they are");
        Used z = Check.lone(5);
        Check.rule(z, "steps 3");
        z.reckon(0);
        z.grow(0, 2);
        due("two on their way", z.flow(1, 2), 2);
        due("not in two", z.flow(2, 0), 0);
        due("both on the third", z.flow(3, 1), 7);
        z.pass();
        due("the first a day ahead", z.flow(60, 0), 2);
        due("five by then", z.flow(2, 1), 5);
        due("two later", z.flow(3, 1), 7);
        due("none at the end", z.flow(3, 2), 2);
    }

    private static void flowBehind999() {
        says("III: in DAYS to come, DAY goes on behind 999 there");
        Used x = Check.lone(5);
        x.terms(0, 999);
        due("no day can pass", x.pass(), -3);
        due("on paper it can", x.flow(1, 0), 1);
        Check.rule(x, "bars if day<1000");
        due("1000 is the second", x.flow(60, 0), 2);
        Check.rule(x, "bars if day<1000+58");
        due("1058 is the sixtieth", x.flow(60, 0), 60);
        due("not in 59", x.flow(59, 0), 0);
        due("999 still", x.count(14), 999);
    }

    private static void flowSixteen() {
        says("III: in DAYS to come all PARISHES are reckoned that can be: 16 GROUPS at most");
        Used x = atSea(50, 50, 50, 50, 50, 50, 50, 50, 50, 50);
        Check.rule(x, "tens 99;stays over-1;steps 9");
        due("ten on the first", x.flow(1, 2), 10);
        due("sixteen on the second", x.flow(2, 2), 16);
        due("no more on the third", x.flow(3, 2), 16);
        due("nobody in eight", x.flow(8, 1), 0);
        due("the ten on the ninth", x.flow(9, 1), 10);
        due("the six on the tenth", x.flow(10, 1), 16);
        due("sixteen at most in sixty", x.flow(60, 2), 16);
        Used barred = atSea(3, 4);
        Check.rule(barred, "bars if parish=0");
        due("not who is barred", barred.flow(60, 1), 4);
        Used fifteen = atSea(50);
        Check.rule(fifteen, "tens 99;stays over-1;steps 9");
        due("one a day: nine walk, one has come", fifteen.flow(9, 2), 8);
    }

    private static void flowByNumbers() {
        says("III: in DAYS to come, by numbers");
        Used x = atSea(3, 4, 5);
        Check.rule(x, "steps 9");
        for (int g = 0; g < 15; g++) {
            x.grow(2, 1);
            due("walk", x.reckon(2) > 0 ? 1 : 0, 1);
        }
        x.grow(2, 1);
        int walking = x.count(2);
        due("0 takes the room that is left", x.flow(9, 1), walking + 3);
        due("sixteen then", x.flow(1, 2), 16);
    }
}
