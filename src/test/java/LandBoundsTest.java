/**
 * The boundaries of Terms I, of the acts of Terms III, and of promises 1 to
 * 5, 15 to 18, 25 and 26: at each of them, one short of it, one beyond it.
 */
public final class LandBoundsTest extends Bounds {
    private LandBoundsTest() {
    }

    public static void main(String[] args) {
        newObject();
        tenParishes();
        below();
        parishCount();
        depth();
        ofWhat();
        walkedAndSea();
        walkedBeyond();
        seaBeyond();
        sixteenGroups();
        groupsEarliestFirst();
        groupWhat();
        groupSize();
        groupLeft();
        heardEight();
        heardOver();
        termRanges();
        refusedInOrder();
        refusedChangesNothing();
        reckonWhom();
        reckonNobody();
        reckonBarred();
        passTo999();
        passArrives();
        arriveTo999();
        lendMen();
        lendHowMany();
        lendNotBeyond999();
        lendBeside();
        growBy();
        growTo();
        Check.end("LandBoundsTest");
    }

    private static void newObject() {
        says("1: a sea without parishes");
        Used x = new Used();
        for (int what = 0; what <= 12; what++) {
            due("count(" + what + ")", x.count(what), 0);
        }
        due("no law in force", x.count(13), NONE);
        int[] first = {0, 10, 2, 0};
        for (int what = 0; what < 4; what++) {
            due("term " + what + " at first", x.count(14 + what), first[what]);
        }
        due("no parish 0", x.of(0, 1), NOTHING);
        due("no group 0", x.group(0, 0), NONE);
        due("nobody to the sea", x.once(NONE), 0);
        due("nobody from 0", x.once(0), NONE);
        due("fewest", x.fewest(0), 0);
        due("fewest, who", x.fewest(1), 0);
        due("lent", x.lent(0), 0);
        due("lent of 0", x.lent(1), NOTHING);
        due("odds", x.odds(0, 0, 0), NONE);
        due("best", x.best(0), 2);
        due("best, how many", x.best(1), 0);
        due("hidden", x.hidden(NONE), 0);
        due("hidden 0", x.hidden(0), NONE);
        due("look", x.look(0), NONE);
        due("look, left", x.look(1), NONE);
        due("moved", x.moved(0), NONE);
        due("flow, first", x.flow(60, 0), 0);
        due("flow, groups", x.flow(60, 2), 0);
        due("years", x.years(0, 1), -3);
        due("drawn", x.drawn(0, 0), NONE);
        due("forget", x.forget(), 0);
        due("reckon", x.reckon(0), -2);
        due("lend", x.lend(0, 0, 1), -2);
        due("grow", x.grow(0, 1), -2);
        due("hear", x.hear(0, 0), -2);
        due("undo", x.undo(), -3);
        due("row", x.row(), -6);
    }

    private static void tenParishes() {
        says("I: PARISHES 0 .. 9 (10 at most)");
        Used x = new Used();
        for (int i = 0; i < 10; i++) {
            due("there are so many", x.count(0), i);
            due("the next is not there", x.of(i, 1), NOTHING);
            due("its number", x.parish(NONE, 50 + i), i);
            due("it is there", x.of(i, 1), 50 + i);
        }
        due("the eleventh", x.parish(NONE, 5), -5);
        due("told by status", x.status(), -5);
        due("ten still", x.count(0), 10);
        due("no parish 10", x.of(10, 1), NOTHING);
        due("the tenth is as it was", x.of(9, 1), 59);
        due("one by one", x.count(11), 1);
    }

    private static void below() {
        says("I, 2: BELOW -1 or a lower one");
        Used x = new Used();
        int[] wrong = {-2, 0, 1, 9, 10, MAX, MIN};
        for (int below : wrong) {
            due("the first, below it " + below, x.parish(below, 5), -1);
        }
        due("none came", x.count(0), 0);
        due("the first", x.parish(-1, 5), 0);
        due("the second, below it itself", x.parish(1, 5), -1);
        due("the second, below it -2", x.parish(-2, 5), -1);
        due("the second, below it 0", x.parish(0, 5), 1);
        for (int i = 2; i < 10; i++) {
            due("below it itself", x.parish(i, 5), -1);
            due("below it the one ahead", x.parish(i - 1, 5), i);
            due("that is BELOW", x.of(i, 0), i - 1);
        }
        due("BELOW of the first is the sea", x.of(0, 0), NONE);
        due("no room, below it 9", x.parish(9, 5), -5);
        due("no room, below it the sea", x.parish(-1, 5), -5);
        due("no room, below it itself", x.parish(10, 5), -1);
        due("no room, below it -2", x.parish(-2, 5), -1);
    }

    private static void parishCount() {
        says("I, 2: COUNT 0 .. 999");
        int[] well = {0, 1, 998, 999};
        for (int count : well) {
            Used x = new Used();
            due("count " + count, x.parish(NONE, count), 0);
            due("it is", x.of(0, 1), count);
        }
        int[] wrong = {-1, -2, 1000, 1001, MAX, MIN};
        for (int count : wrong) {
            Used x = new Used();
            due("count " + count, x.parish(NONE, count), -1);
            due("none came", x.count(0), 0);
        }
    }

    private static void depth() {
        says("I: DEPTH, how many PARISHES lie below it on the way to the SEA");
        Used x = inARow(1, 1, 1, 1, 1, 1, 1, 1, 1, 1);
        for (int p = 0; p < 10; p++) {
            due("in a row, " + p, x.of(p, 2), p);
        }
        Used y = atSea(1, 1);
        y.parish(0, 1);
        y.parish(0, 1);
        y.parish(3, 1);
        y.parish(1, 1);
        int[] depths = {0, 0, 1, 1, 2, 1};
        for (int p = 0; p < 6; p++) {
            due("where valleys join, " + p, y.of(p, 2), depths[p]);
        }
    }

    private static void ofWhat() {
        says("3: what 0 .. 9 of a PARISH, NOTHING else");
        Used x = inARow(23, 17);
        int[] want = {0, 17, 1, 0, 10, 7, 7, 1, 0, 2};
        for (int what = 0; what <= 9; what++) {
            due("of(1, " + what + ")", x.of(1, what), want[what]);
            due("of(2, " + what + ")", x.of(2, what), NOTHING);
            due("of(-1, " + what + ")", x.of(-1, what), NOTHING);
        }
        int[] wrong = {-1, 10, MAX, MIN};
        for (int what : wrong) {
            due("of(1, " + what + ")", x.of(1, what), NOTHING);
            due("of(" + what + ", 1)", x.of(what, 1), NOTHING);
        }
    }

    private static void walkedAndSea() {
        says("I: WALKED, SEA 0 .. 99,999 (0 at first)");
        Used x = Check.lone(9);
        due("WALKED at first", x.of(0, 3), 0);
        due("SEA at first", x.count(3), 0);
        x = Check.worn();
        due("WALKED so far", x.of(0, 3), 99990);
        due("SEA so far", x.count(3), 99990);
        int[] more = {8, 1, 1};
        int[] then = {99998, 99999, 99999};
        for (int i = 0; i < 3; i++) {
            x.grow(0, more[i]);
            due("all walk", x.reckon(0), more[i]);
            due("WALKED", x.of(0, 3), then[i]);
            due("COUNT is less by them", x.of(0, 1), 0);
            due("a GROUP of them", x.group(0, 1), more[i]);
            due("SEA ahead of them", x.count(3), i == 0 ? 99990 : then[i - 1]);
            due("all arrive", x.pass(), more[i]);
            due("SEA", x.count(3), then[i]);
        }
        int[] sea = {99999, 99999, 99999, 99998, 99998, 99998, 99990};
        int[] walked = {99999, 99999, 99999, 99999, 99998, 99998, 99998};
        for (int i = 0; i < sea.length; i++) {
            x.undo();
            due("SEA, undone " + i, x.count(3), sea[i]);
            due("WALKED, undone " + i, x.of(0, 3), walked[i]);
        }
    }

    private static void walkedBeyond() {
        says("III: WALKED more by them, 99,999 at most");
        Used x = Check.worn();
        x.grow(0, 10);
        due("ten more", x.reckon(0), 10);
        due("is one too many", x.of(0, 3), 99999);
        x.undo();
        due("undone", x.of(0, 3), 99990);
        x.undo();
        x.grow(0, 9);
        x.reckon(0);
        due("nine more are not", x.of(0, 3), 99999);
        x.undo();
        x.grow(0, 89);
        due("far more", x.reckon(0), 98);
        due("are too many", x.of(0, 3), 99999);
        Used y = Check.worn();
        Check.rule(y, "tens 99;stays 1 if walked > 99*1000+998");
        Check.orders(y, "grow 0 by 9;reckon 0;grow 0 by 9");
        due("laws see 99,999", y.of(0, 6), 8);
        due("years end there, too", y.years(0, 1), 8 + 9);
        due("WALKED behind them", y.drawn(0, 1), 99999);
    }

    private static void seaBeyond() {
        says("III: SEA (99,999 at most) is more by their SIZE");
        Used x = Check.worn();
        x.grow(0, 10);
        x.reckon(0);
        due("ten more", x.pass(), 10);
        due("is one too many", x.count(3), 99999);
        x.undo();
        due("undone", x.count(3), 99990);
        x.undo();
        x.grow(0, -1);
        x.reckon(0);
        due("nine more", x.pass(), 9);
        due("are not", x.count(3), 99999);
        x.undo();
        x.grow(0, 5);
        x.reckon(0);
        due("two groups", x.pass(), 14);
        due("SEA by both", x.count(3), 99999);
        due("orders see it", Check.orders(x, "pass if sea = 99*1000+999"), 1);
        due("and no more", Check.orders(x, "pass if sea > 99*1000+999"), 0);
        x.grow(0, 98);
        due("who comes is told nevertheless, at once", x.once(NONE), 98);
        due("in days to come", x.flow(1, 1), 98);
        due("on the first", x.flow(1, 0), 1);
    }

    private static Used sixteenWalk(int groups) {
        Used x = atSea(0, 1, 2, 3, 4, 5, 6, 7, 8, 9);
        Check.rule(x, "steps 9");
        for (int g = 0; g < groups; g++) {
            int p = 1 + g % 8;
            if (g >= 8) {
                x.grow(p, p);
            }
            due("walkers " + g, x.reckon(p) > 0 ? 1 : 0, 1);
            due("groups " + g, x.count(1), g + 1);
        }
        return x;
    }

    private static void sixteenGroups() {
        says("I, III: GROUPS that walk, 16 at most; -5, if there are WALKERS and 16 GROUPS walk");
        Used x = sixteenWalk(15);
        due("no sixteenth yet", x.group(15, 1), NONE);
        due("a sixteenth", x.reckon(9), 9);
        due("is the last", x.group(15, 0), 9);
        due("with its size", x.group(15, 1), 9);
        due("sixteen", x.count(1), 16);
        due("no seventeenth", x.group(16, 1), NONE);
        x.grow(9, 1);
        int undone = x.count(6);
        int walking = x.count(2);
        due("a seventeenth", x.reckon(9), -5);
        due("by status", x.status(), -5);
        due("by count", x.count(11), 1);
        due("sixteen still", x.count(1), 16);
        due("as many walk", x.count(2), walking);
        due("COUNT stays", x.of(9, 1), 1);
        due("WALKED stays", x.of(9, 3), 9);
        due("nothing to undo", x.count(6), undone);
        due("nobody is over in 0: no GROUP is needed", x.reckon(0), 0);
        for (int day = 1; day < 9; day++) {
            due("day " + day, x.pass(), 0);
            due("no room on day " + day, x.reckon(9), -5);
        }
        due("all arrive", x.pass(), walking);
        due("there is room again", x.reckon(9), 1);
        Used y = sixteenWalk(16);
        y.grow(9, 90);
        due("orders, too, have no room", Check.orders(y, "pass;reckon 9"), -3);
        due("orders of nobody need none", Check.orders(y, "pass;reckon 0"), 2);
    }

    private static void groupsEarliestFirst() {
        says("I: GROUPS, the earliest first");
        Used x = atSea(1, 2, 3, 4);
        Check.rule(x, "steps 4 - parish");
        int[] order = {2, 0, 3, 1};
        for (int p : order) {
            x.reckon(p);
        }
        for (int k = 0; k < 4; k++) {
            due("FROM of " + k, x.group(k, 0), order[k]);
            due("SIZE of " + k, x.group(k, 1), order[k] + 1);
            due("LEFT of " + k, x.group(k, 2), 4 - order[k]);
        }
        due("3 arrives", x.pass(), 4);
        int[] left = {2, 0, 1};
        for (int k = 0; k < 3; k++) {
            due("FROM of " + k + " then", x.group(k, 0), left[k]);
            due("SIZE of " + k + " then", x.group(k, 1), left[k] + 1);
            due("LEFT of " + k + " then", x.group(k, 2), 3 - left[k]);
        }
        due("three walk", x.group(3, 0), NONE);
        x.grow(3, 5);
        x.reckon(3);
        due("the latest is the last", x.group(3, 0), 3);
    }

    private static void groupWhat() {
        says("4: FROM, SIZE, LEFT of GROUP k, NONE else");
        Used x = atSea(5, 6);
        x.reckon(1);
        due("FROM", x.group(0, 0), 1);
        due("SIZE", x.group(0, 1), 6);
        due("LEFT", x.group(0, 2), 1);
        int[] wrong = {-1, 3, MAX, MIN};
        for (int what : wrong) {
            due("what " + what, x.group(0, what), NONE);
        }
        int[] none = {-1, 1, 15, 16, MAX, MIN};
        for (int k : none) {
            for (int what = 0; what < 3; what++) {
                due("group " + k, x.group(k, what), NONE);
            }
        }
    }

    private static void groupSize() {
        says("I: SIZE 1 .. 98");
        Used x = atSea(1, 98, 99, 100, 0);
        Check.rule(x, "tens 99");
        due("1", x.reckon(0), 1);
        due("SIZE 1", x.group(0, 1), 1);
        due("98", x.reckon(1), 98);
        due("SIZE 98", x.group(1, 1), 98);
        due("99", x.reckon(2), 0);
        due("100", x.reckon(3), 1);
        due("0", x.reckon(4), 0);
        due("three of them", x.count(1), 3);
        due("so many walk", x.count(2), 100);
        due("all arrive", x.pass(), 100);
    }

    private static void groupLeft() {
        says("I: LEFT 1 .. 9");
        int[] told = {-5, 0, 1, 2, 8, 9, 10, 99};
        int[] left = {1, 1, 1, 2, 8, 9, 9, 9};
        for (int i = 0; i < told.length; i++) {
            Used x = Check.lone(3);
            Check.rule(x, told[i] < 0 ? "steps 0-" + -told[i] : "steps " + told[i]);
            x.reckon(0);
            for (int day = left[i]; day > 0; day--) {
                due("steps " + told[i] + ", LEFT", x.group(0, 2), day);
                due("steps " + told[i] + ", arrived", x.pass(), day == 1 ? 3 : 0);
            }
            due("none walks", x.count(1), 0);
            due("SEA", x.count(3), 3);
        }
    }

    private static void heardEight() {
        says("I, 25: HEARD, 8 at most; -5");
        Used x = atSea(5, 5);
        for (int i = 1; i <= 8; i++) {
            due("so often was heard", x.count(4), i - 1);
            due("hear " + i, x.hear(i % 2, 4), i);
        }
        due("a ninth", x.hear(0, 5), -5);
        due("by status", x.status(), -5);
        due("eight still", x.count(4), 8);
        due("a ninth of 2", x.hear(2, 5), -2);
        due("a ninth of 99", x.hear(0, 99), -1);
        due("forget", x.forget(), 8);
        due("nothing is", x.count(4), 0);
        due("forget again", x.forget(), 0);
        due("there is room again", x.hear(1, 4), 1);
        // All eight count: 5 over in both but for the dead one, whom the last tells.
        Used y = atSea(5, 5);
        for (int i = 0; i < 7; i++) {
            y.hear(0, 5);
        }
        due("a death in 1 by seven", y.hidden(NONE), 1);
        y.hear(1, 5);
        due("none by the eighth", y.hidden(NONE), 0);
    }

    private static void heardOver() {
        says("I, 25: OVER 0 .. 98");
        Used x = atSea(5);
        int[] wrong = {-1, 99, -2, 100, MAX, MIN};
        for (int over : wrong) {
            due("over " + over, x.hear(0, over), -1);
            due("by status", x.status(), -1);
        }
        due("none was heard", x.count(4), 0);
        due("over 0", x.hear(0, 0), 1);
        due("over 98", x.hear(0, 98), 2);
        says("25: -2");
        int[] none = {-1, 1, 9, 10, MAX, MIN};
        for (int parish : none) {
            due("of " + parish, x.hear(parish, 0), -2);
        }
        due("two still", x.count(4), 2);
    }

    private static void termRanges() {
        says("I, 5: TERMS 0 DAY 0 .. 999, 1 BY 2 .. 99, 2 RATE 0 .. 10, 3 MOOD 0 .. 9");
        int[] least = {0, 2, 0, 0};
        int[] most = {999, 99, 10, 9};
        int[] first = {0, 10, 2, 0};
        for (int what = 0; what < 4; what++) {
            Used x = Check.lone(5);
            int[] wrong = {least[what] - 1, most[what] + 1, MAX, MIN};
            for (int value : wrong) {
                due("term " + what + " is to be " + value, x.terms(what, value), -1);
                due("by status", x.status(), -1);
                due("it stays", x.count(14 + what), first[what]);
            }
            int[] well = {least[what], least[what] + 1, most[what] - 1, most[what]};
            int was = first[what];
            for (int value : well) {
                due("term " + what + " is to be " + value, x.terms(what, value), was);
                due("by status", x.status(), 0);
                due("it is", x.count(14 + what), value);
                was = value;
            }
            for (int other = 0; other < 4; other++) {
                due("term " + other, x.count(14 + other), other == what ? was : first[other]);
            }
        }
        Used x = new Used();
        int[] wrong = {-1, 4, MAX, MIN};
        for (int what : wrong) {
            due("term " + what, x.terms(what, 5), -1);
        }
    }

    private static void refusedInOrder() {
        says("I: REFUSED by the first of these in that order");
        Used x = sixteenWalk(16);
        due("parish: -1, -5", x.parish(10, 5), -1);
        due("parish: count, -5", x.parish(0, 1000), -1);
        due("lend: -1, -2, -3", x.lend(10, 10, 100), -1);
        due("lend: -1, -3", x.lend(1, 2, 0), -1);
        due("lend: -2 from, -3", x.lend(10, 0, 99), -2);
        due("lend: -2 to, -3", x.lend(0, 10, 99), -2);
        due("lend: -3", x.lend(0, 1, 99), -3);
        due("grow: -1, -2", x.grow(10, 100), -1);
        due("grow: -1, -3", x.grow(0, -100), -1);
        due("grow: -2, -3", x.grow(10, -99), -2);
        due("grow: -3", x.grow(0, -99), -3);
        due("reckon: -2", x.reckon(10), -2);
        due("reckon: -5", x.reckon(9), -5);
        Check.rule(x, "bars");
        due("reckon: -3, -5", x.reckon(9), -3);
        for (int i = 0; i < 8; i++) {
            x.hear(0, 0);
        }
        due("hear: -1, -2, -5", x.hear(10, 99), -1);
        due("hear: -1, -5", x.hear(0, 99), -1);
        due("hear: -2, -5", x.hear(10, 0), -2);
        due("hear: -5", x.hear(0, 0), -5);
        Used none = new Used();
        due("years: -1, -3", none.years(0, 0), -1);
        due("years: -1 of the seed, -3", none.years(-1, 1), -1);
        due("years: -3", none.years(0, 1), -3);
        due("back: -1, -2", none.back(2), -1);
        due("back: -2", none.back(1), -2);
        for (int i = 0; i < 6; i++) {
            Check.law(none, "bars");
        }
        due("law: -5, -6", none.law(), -5);
        due("orders: a fault ahead of what can't be", Check.orders(none, "reckon 9;x"), -6);
    }

    private static void refusedChangesNothing() {
        says("I: what is REFUSED changes nothing");
        Used x = sixteenWalk(16);
        x.grow(9, -1);
        String was = Check.seen(x);
        x.parish(NONE, 5);
        x.terms(0, 1000);
        x.row();
        x.law();
        x.orders();
        x.force(5);
        x.reckon(9);
        x.reckon(10);
        x.lend(9, 0, 1);
        x.grow(9, -9);
        x.hear(10, 0);
        x.years(0, 0);
        x.image(2);
        x.back(0);
        due("all as it was", Check.seen(x).equals(was) ? 1 : 0, 1);
        due("the latest can be undone still", x.undo(), 3);
    }

    private static void reckonWhom() {
        says("15: -2");
        Used x = atSea(5, 6);
        int[] none = {-1, 2, 9, 10, MAX, MIN};
        for (int parish : none) {
            due("reckon(" + parish + ")", x.reckon(parish), -2);
            due("by status", x.status(), -2);
        }
        due("nobody walks", x.count(2), 0);
        due("reckon(1)", x.reckon(1), 6);
        due("reckon(0)", x.reckon(0), 5);
    }

    private static void reckonNobody() {
        says("III: no GROUP, if there are no WALKERS");
        Used x = atSea(10, 11, 9, 0);
        due("10", x.reckon(0), 0);
        due("no group", x.count(1), 0);
        due("it can be undone", x.count(6), 1);
        due("0", x.reckon(3), 0);
        due("11", x.reckon(1), 1);
        due("9", x.reckon(2), 9);
        due("again", x.reckon(2), 0);
        due("two groups", x.count(1), 2);
        Check.rule(x, "stays over");
        x.grow(0, 5);
        due("all stay", x.reckon(0), 0);
        due("COUNT stays", x.of(0, 1), 15);
        due("WALKED stays", x.of(0, 3), 0);
        due("two groups still", x.count(1), 2);
    }

    private static void reckonBarred() {
        says("III, 15: to RECKON a PARISH, not BARRED; -3");
        Used x = atSea(5, 10);
        Check.rule(x, "bars if count > 4");
        due("barred", x.reckon(0), -3);
        due("by status", x.status(), -3);
        due("barred, though nobody would walk", x.reckon(1), -3);
        due("nothing to undo", x.count(6), 0);
        x.grow(0, -1);
        due("not barred", x.reckon(0), 4);
    }

    private static void passTo999() {
        says("III, 16: a day PASSES (DAY below 999); -3");
        Used x = Check.lone(5);
        x.terms(0, 997);
        due("to 998", x.pass(), 0);
        due("998", x.count(14), 998);
        x.reckon(0);
        due("to 999", x.pass(), 5);
        due("999", x.count(14), 999);
        x.grow(0, 7);
        x.reckon(0);
        due("no farther", x.pass(), -3);
        due("by status", x.status(), -3);
        due("999 still", x.count(14), 999);
        due("they walk still", x.group(0, 2), 1);
        due("the last that can be undone is the reckoning", x.undo(), 0);
        x.undo();
        due("the day", x.undo(), 1);
        due("998 again", x.count(14), 998);
        due("it can pass again", x.pass(), 5);
        x.terms(0, 998);
        due("by orders, a day", Check.orders(x, "pass"), 1);
        due("by orders, a day too many", Check.orders(x, "pass"), -3);
        x.terms(0, 979);
        due("by orders, 21 days of 20", Check.orders(x, "pass times 20;pass"), -3);
        due("none of them", x.count(14), 979);
        due("by orders, 20 days of 20", Check.orders(x, "pass times 20"), 20);
        due("all of them", x.count(14), 999);
    }

    private static void passArrives() {
        says("III: those that have none LEFT arrive");
        Used x = inARow(30, 7, 8);
        Check.rule(x, "steps parish");
        due("two days", x.reckon(2), 8);
        due("a day", x.reckon(1), 7);
        due("the first day", x.pass(), 7);
        due("below 1", x.of(0, 1), 37);
        due("not below 2", x.of(1, 1), 0);
        due("a day less", x.group(0, 2), 1);
        due("the second day", x.pass(), 8);
        due("below 2", x.of(1, 1), 8);
        due("none walks", x.count(1), 0);
        due("nobody comes", x.pass(), 0);
        due("nobody came to the sea", x.count(3), 0);
        due("three days", x.count(14), 3);
    }

    private static void arriveTo999() {
        says("III: COUNT there (999 at most) is more by their SIZE");
        int[] before = {989, 990, 991, 999};
        int[] then = {998, 999, 999, 999};
        for (int i = 0; i < before.length; i++) {
            Used x = inARow(before[i], 9);
            x.reckon(1);
            due("all arrive", x.pass(), 9);
            due(before[i] + " and 9", x.of(0, 1), then[i]);
            due("nobody is at the sea", x.count(3), 0);
            x.undo();
            due("undone", x.of(0, 1), before[i]);
            due("by orders", Check.orders(x, "pass"), 1);
            due(before[i] + " and 9 by orders", x.of(0, 1), then[i]);
        }
        Used x = inARow(985, 9);
        x.parish(0, 8);
        x.reckon(1);
        x.reckon(2);
        due("both arrive", x.pass(), 17);
        due("985 and 9 and 8", x.of(0, 1), 999);
    }

    private static void lendMen() {
        says("17: 1 .. 99 men; -1");
        Used x = inARow(300, 300);
        int[] wrong = {0, 100, -1, 101, MAX, MIN};
        for (int men : wrong) {
            due("men " + men, x.lend(0, 1, men), -1);
            due("by status", x.status(), -1);
        }
        due("as it was", x.of(0, 1), 300);
        due("1", x.lend(0, 1, 1), 299);
        due("there", x.of(1, 1), 301);
        due("99", x.lend(0, 1, 99), 200);
        due("there", x.of(1, 1), 400);
        due("98 back", x.lend(1, 0, 98), 302);
        says("17: -2");
        int[] none = {-1, 2, 9, 10, MAX, MIN};
        for (int parish : none) {
            due("from " + parish, x.lend(parish, 0, 1), -2);
            due("to " + parish, x.lend(0, parish, 1), -2);
        }
        due("nothing moved", x.of(0, 1), 298);
    }

    private static void lendHowMany() {
        says("III: to LEND as many as it has, or fewer");
        Used x = inARow(7, 0);
        due("8 of 7", x.lend(0, 1, 8), -3);
        due("6 of 7", x.lend(0, 1, 6), 1);
        x.undo();
        due("7 of 7", x.lend(0, 1, 7), 0);
        due("there", x.of(1, 1), 7);
        due("1 of 0", x.lend(0, 1, 1), -3);
        due("by status", x.status(), -3);
        due("by orders, 1 of 0", Check.orders(x, "lend 0 to 1"), -3);
        due("by orders, 8 of 7", Check.orders(x, "lend 1 to 0 times 8"), -3);
        due("none of them", x.of(1, 1), 7);
        due("by orders, 7 of 7", Check.orders(x, "lend 1 to 0 times 7"), 7);
        due("all of them", x.of(1, 1), 0);
    }

    private static void lendNotBeyond999() {
        says("III: to LEND, COUNT more there (not beyond 999)");
        Used x = inARow(990, 50);
        due("10 to 990", x.lend(1, 0, 10), -3);
        due("as it was", x.of(1, 1), 50);
        due("8 to 990", x.lend(1, 0, 8), 42);
        x.undo();
        due("9 to 990", x.lend(1, 0, 9), 41);
        due("999", x.of(0, 1), 999);
        due("1 to 999", x.lend(1, 0, 1), -3);
        due("by orders", Check.orders(x, "lend 1 to 0"), -3);
        due("1 of 999", x.lend(0, 1, 1), 998);
    }

    private static void lendBeside() {
        says("III: to one BESIDE it (BELOW it, or that lies above it)");
        Used x = new Used();
        int[] below = {NONE, 0, 0, 1, NONE};
        for (int b : below) {
            x.parish(b, 50);
        }
        for (int from = 0; from < 5; from++) {
            for (int to = 0; to < 5; to++) {
                boolean beside = below[from] == to || below[to] == from;
                due(from + " to " + to, x.lend(from, to, 1), beside ? x.of(from, 1) : -3);
                if (beside) {
                    due("undone", x.undo(), 2);
                }
            }
        }
    }

    private static void growBy() {
        says("III, 18: to GROW by -99 .. 99; -1");
        Used x = Check.lone(500);
        int[] wrong = {-100, 100, -101, 101, MAX, MIN};
        for (int by : wrong) {
            due("by " + by, x.grow(0, by), -1);
            due("by status", x.status(), -1);
        }
        due("as it was", x.of(0, 1), 500);
        due("by 99", x.grow(0, 99), 599);
        due("by -99", x.grow(0, -99), 500);
        due("by 98", x.grow(0, 98), 598);
        due("by -98", x.grow(0, -98), 500);
        due("by 0", x.grow(0, 0), 500);
        due("by 0 can be undone, too", x.count(6), 5);
        due("by orders, 100", Check.orders(x, "grow 0 by 100"), -3);
        due("by orders, -100", Check.orders(x, "grow 0 by 0-100"), -3);
        due("by orders, 99", Check.orders(x, "grow 0 by 99"), 1);
        due("by orders, -99", Check.orders(x, "grow 0 by 0-99"), 1);
        says("18: -2");
        int[] none = {-1, 1, 9, 10, MAX, MIN};
        for (int parish : none) {
            due("grow(" + parish + ", 1)", x.grow(parish, 1), -2);
        }
    }

    private static void growTo() {
        says("III: COUNT 0 .. 999 then; -3");
        Used x = Check.lone(950);
        due("to 1000", x.grow(0, 50), -3);
        due("by status", x.status(), -3);
        due("to 998", x.grow(0, 48), 998);
        due("to 1000 by 2", x.grow(0, 2), -3);
        due("to 999", x.grow(0, 1), 999);
        due("by 1 more", x.grow(0, 1), -3);
        due("by 0 more", x.grow(0, 0), 999);
        Used y = Check.lone(50);
        due("to -1", y.grow(0, -51), -3);
        due("to 1", y.grow(0, -49), 1);
        due("to -1 by -2", y.grow(0, -2), -3);
        due("to 0", y.grow(0, -1), 0);
        due("by -1 more", y.grow(0, -1), -3);
        due("by orders", Check.orders(y, "grow 0 by 0-1"), -3);
        due("0 still", y.of(0, 1), 0);
    }
}
