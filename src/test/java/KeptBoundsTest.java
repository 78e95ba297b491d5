/**
 * The boundaries of Terms IV and of promises 8, 9, 19 and 31 to 36: at each
 * of them, one short of it, one beyond it.
 */
public final class KeptBoundsTest extends Bounds {
    private KeptBoundsTest() {
    }

    public static void main(String[] args) {
        rowThird();
        rowSecond();
        rowFirst();
        rowEndsWithin();
        rowNoRoom();
        rowOf400();
        stonesOfLatest();
        undoSixteen();
        undoByOrders();
        undoBehindWhat();
        undoOnlyTheAct();
        yearsSeed();
        yearsDays();
        yearsDraws();
        yearsOfParishes();
        yearsTo999();
        yearsDies();
        yearsReckons();
        yearsEnd();
        drawnWhat();
        drawnOfLatest();
        imageWhich();
        imageKeeps();
        imageKeepsNot();
        imagesStay();
        countWhat();
        countRefused();
        statusOfEach();
        statusOfOthers();
        Check.end("KeptBoundsTest");
    }

    private static void row(Used x, int came, int stones, int... bytes) {
        int had = x.count(0);
        Check.tape(x, bytes);
        due("row", x.row(), came);
        due("by status", x.status(), 0);
        due("stones", x.stones(), stones);
        due("parishes", x.count(0), had + came);
        due("the TAPE is empty", x.count(7), 0);
    }

    private static void rowThird() {
        says("IV: COUNT as ten times the second and the third (0 .. 9)");
        int[] third = {0, 1, 8, 9};
        for (int b : third) {
            Used x = new Used();
            row(x, 1, 0, 0, 3, b);
            due("count", x.of(0, 1), 30 + b);
        }
        int[] wrong = {10, 11, 48, 57, 128, 255};
        for (int b : wrong) {
            row(new Used(), 0, 1, 0, 3, b);
        }
    }

    private static void rowSecond() {
        says("IV: a PARISH, one that can't be is a STONE: COUNT to 999");
        int[] second = {0, 1, 98, 99};
        for (int b : second) {
            Used x = new Used();
            row(x, 1, 0, 0, b, 9);
            due("count", x.of(0, 1), 10 * b + 9);
        }
        row(new Used(), 0, 1, 0, 100, 0);
        row(new Used(), 0, 1, 0, 101, 0);
        row(new Used(), 0, 1, 0, 128, 0);
        row(new Used(), 0, 1, 0, 255, 9);
        Used x = new Used();
        row(x, 1, 0, 0, 0, 0);
        due("0", x.of(0, 1), 0);
    }

    private static void rowFirst() {
        says("IV: BELOW and 1");
        Used x = new Used();
        row(x, 0, 1, 1, 0, 5);
        row(x, 1, 0, 0, 0, 5);
        due("0 is the SEA", x.of(0, 0), NONE);
        row(x, 0, 1, 2, 0, 5);
        row(x, 1, 0, 1, 0, 5);
        due("1 is 0", x.of(1, 0), 0);
        row(x, 0, 3, 3, 0, 5, 128, 0, 5, 255, 0, 5);
        row(x, 1, 0, 2, 0, 5);
        due("2 is 1", x.of(2, 0), 1);
        due("its depth", x.of(2, 2), 2);
        Used y = new Used();
        row(y, 3, 1, 0, 1, 1, 1, 2, 2, 4, 3, 3, 2, 4, 4);
        due("one of the same row", y.of(2, 0), 1);
        due("behind a stone", y.of(2, 1), 44);
    }

    private static void rowEndsWithin() {
        says("IV: one within which the TAPE ends is a STONE");
        row(new Used(), 0, 1, 0);
        row(new Used(), 0, 1, 0, 5);
        row(new Used(), 1, 0, 0, 5, 5);
        row(new Used(), 1, 1, 0, 5, 5, 0);
        row(new Used(), 1, 1, 0, 5, 5, 0, 5);
        row(new Used(), 2, 0, 0, 5, 5, 0, 5, 5);
        Used x = new Used();
        x.feed(0, 0, 0, 0, 0);
        due("twenty bytes", x.row(), 6);
        due("two are left", x.stones(), 1);
        x.feed(0x00050500, 0x05050005, 0, 0, 0);
        x.end(8);
        due("not what is behind the end", x.row(), 2);
        due("a stone of two", x.stones(), 1);
        says("8: -6 the TAPE is empty");
        due("empty", x.row(), -6);
        due("by status", x.status(), -6);
        x.feed(0, 0, 0, 0, 0);
        x.end(0);
        due("empty by its end", x.row(), -6);
        due("counted", x.count(12), 2);
    }

    private static void rowNoRoom() {
        says("IV: one for which there is no room is a STONE");
        int[] bytes = new int[33];
        for (int n = 9; n <= 11; n++) {
            Used x = new Used();
            int[] some = new int[3 * n];
            for (int i = 0; i < n; i++) {
                some[3 * i + 2] = i % 10;
            }
            row(x, Math.min(10, n), Math.max(0, n - 10), some);
            due("the last", x.of(Math.min(10, n) - 1, 1), Math.min(10, n) - 1);
        }
        Used x = new Used();
        for (int i = 0; i < 9; i++) {
            x.parish(NONE, i);
        }
        row(x, 1, 1, 0, 0, 5, 0, 0, 6);
        due("the first of both", x.of(9, 1), 5);
        row(x, 0, 1, 0, 0, 5);
        row(x, 0, 11, bytes);
        due("ten", x.count(0), 10);
    }

    private static void rowOf400() {
        says("IV: the TAPE's bytes by threes, 400 at most");
        Used x = new Used();
        int[] bytes = new int[400];
        bytes[397] = 5;
        row(x, 10, 124, bytes);
        Used y = new Used();
        int[] stones = new int[400];
        for (int i = 0; i < 396; i++) {
            stones[i] = 255;
        }
        stones[397] = 7;
        stones[398] = 3;
        row(y, 1, 133, stones);
        due("the last that is whole", y.of(0, 1), 73);
    }

    private static void stonesOfLatest() {
        says("9: STONES of the latest row() that was not REFUSED (0 ahead of any)");
        Used x = new Used();
        due("ahead of any", x.stones(), 0);
        x.row();
        due("behind one that was REFUSED", x.stones(), 0);
        row(x, 0, 2, 9, 9, 9, 9);
        x.row();
        due("behind one that was REFUSED", x.stones(), 2);
        x.parish(5, 5);
        Check.tape(x, 9, 9, 9);
        x.law();
        due("a law is no row", x.stones(), 2);
        row(x, 1, 0, 0, 0, 0);
        due("anew", x.stones(), 0);
    }

    private static void undoSixteen() {
        says("19: 16 are kept; -3 there is none");
        for (int n = 14; n <= 18; n++) {
            Used x = Check.lone(100);
            for (int i = 0; i < n; i++) {
                x.grow(0, 1);
                due("can be undone", x.count(6), Math.min(16, i + 1));
            }
            for (int i = 0; i < Math.min(16, n); i++) {
                due("undo " + i, x.undo(), 3);
                due("by status", x.status(), 0);
                due("count", x.of(0, 1), 100 + n - i - 1);
                due("can be undone then", x.count(6), Math.min(16, n) - i - 1);
            }
            due("no more of " + n, x.undo(), -3);
            due("by status", x.status(), -3);
            due("the rest stays", x.of(0, 1), 100 + Math.max(0, n - 16));
        }
        Used x = Check.lone(100);
        for (int i = 0; i < 20; i++) {
            x.grow(0, 1);
        }
        for (int i = 0; i < 10; i++) {
            x.undo();
        }
        due("ten undone", x.of(0, 1), 110);
        for (int i = 0; i < 12; i++) {
            x.grow(0, 2);
        }
        due("16 kept again", x.count(6), 16);
        for (int i = 0; i < 16; i++) {
            due("undo again", x.undo(), 3);
        }
        due("twelve of those, four of these", x.of(0, 1), 106);
        due("no more", x.undo(), -3);
        Used refused = Check.lone(10);
        for (int i = 0; i < 16; i++) {
            refused.grow(0, 1);
        }
        due("one that is REFUSED", refused.grow(0, 100), -1);
        due("another", refused.reckon(5), -2);
        for (int i = 0; i < 16; i++) {
            refused.undo();
            due("costs none of the 16", refused.of(0, 1), 25 - i);
        }
    }

    private static void undoByOrders() {
        says("19: by ORDERS, too; 16 are kept");
        for (int n = 15; n <= 18; n++) {
            Used x = Check.lone(100);
            Check.orders(x, "grow 0 by 1 times " + n);
            due("can be undone", x.count(6), Math.min(16, n));
            for (int i = 0; i < Math.min(16, n); i++) {
                due("undo", x.undo(), 3);
                due("one by one", x.of(0, 1), 100 + n - i - 1);
            }
            due("no more", x.undo(), -3);
        }
        Used x = valleys();
        Check.orders(x, "reckon 3;pass;lend 0 to 1;grow 2 by 5");
        due("3 grow", x.undo(), 3);
        due("2 lend", x.undo(), 2);
        due("1 pass", x.undo(), 1);
        due("0 reckon", x.undo(), 0);
        due("-3 none", x.undo(), -3);
        x.grow(0, 1);
        due("orders that can't be leave what can be undone",
                Check.orders(x, "pass times 20;reckon 9"), -3);
        due("one", x.count(6), 1);
        due("orders of which none is run do, too", Check.orders(x, "pass if 1=2"), 0);
        due("one still", x.count(6), 1);
        due("it is the latest", x.undo(), 3);
    }

    private static void undoBehindWhat() {
        says("19: nothing that was ahead of a parish(), row(), terms() that was not REFUSED can be undone");
        Used x = valleys();
        x.grow(0, 1);
        x.parish(9, 1);
        x.parish(NONE, 1000);
        x.terms(1, 1);
        x.terms(4, 4);
        x.row();
        due("REFUSED ones leave it", x.count(6), 1);
        Check.law(x, "tens 5");
        Check.law(x, "tens");
        x.force(0);
        x.force(5);
        x.hear(0, 0);
        x.forget();
        x.image(0);
        x.image(2);
        x.back(1);
        x.back(2);
        x.years(0, 9);
        x.feed(0, 0, 0, 0, 0);
        x.end(0);
        due("others leave it", x.count(6), 1);
        x.terms(1, 10);
        due("a TERM, though it is as it was", x.count(6), 0);
        due("behind it", x.undo(), -3);
        x.grow(0, 1);
        x.parish(NONE, 5);
        due("behind a PARISH", x.undo(), -3);
        x.grow(0, 1);
        row(x, 1, 0, 0, 0, 0);
        due("behind a ROW", x.undo(), -3);
        x.grow(0, 1);
        row(x, 0, 1, 0, 0);
        due("behind a ROW of a STONE", x.undo(), -3);
        x.grow(0, 1);
        x.back(0);
        due("behind back()", x.undo(), -3);
        x.grow(0, 1);
        x.terms(0, 5);
        x.grow(0, 2);
        due("only what is behind it", x.count(6), 1);
        due("that is", x.undo(), 3);
        due("no more", x.undo(), -3);
        due("the one ahead stays", x.of(0, 1), 25);
        Used full = new Used();
        for (int i = 0; i < 10; i++) {
            full.parish(NONE, 5);
        }
        full.grow(0, 1);
        due("no room", full.parish(NONE, 5), -5);
        due("leaves it, too", full.undo(), 3);
        Used first = new Used();
        first.pass();
        first.parish(NONE, 5);
        due("behind the first PARISH", first.undo(), -3);
    }

    private static void undoOnlyTheAct() {
        says("19: the latest is undone");
        Used x = valleys();
        x.reckon(3);
        x.hear(0, 3);
        Check.rule(x, "tens 7");
        x.image(0);
        due("the reckoning", x.undo(), 0);
        due("its COUNT", x.of(3, 1), 45);
        due("its WALKED", x.of(3, 3), 0);
        due("its GROUP", x.count(1), 0);
        due("not what was HEARD", x.count(4), 1);
        due("nor the LAW", x.count(13), 0);
        x.force(NONE);
        x.reckon(2);
        x.reckon(0);
        x.pass();
        due("three came to the SEA", x.count(3), 3);
        due("the day", x.undo(), 1);
        due("nobody did", x.count(3), 0);
        due("DAY", x.count(14), 0);
        due("both walk", x.count(1), 2);
        due("the first", x.group(0, 0), 2);
        due("its LEFT", x.group(0, 2), 1);
        due("COUNT below", x.of(0, 1), 20);
        due("it can pass again", x.pass(), 11);
        due("COUNT below then", x.of(0, 1), 28);
        Used y = valleys();
        Check.rule(y, "steps 1+parish");
        y.reckon(0);
        y.reckon(3);
        y.reckon(2);
        y.pass();
        y.grow(1, 1);
        y.reckon(1);
        due("the latest", y.undo(), 0);
        due("the birth", y.undo(), 3);
        due("the day", y.undo(), 1);
        int[] from = {0, 3, 2};
        int[] size = {3, 5, 8};
        int[] left = {1, 4, 3};
        for (int k = 0; k < 3; k++) {
            due("FROM of " + k, y.group(k, 0), from[k]);
            due("SIZE of " + k, y.group(k, 1), size[k]);
            due("LEFT of " + k, y.group(k, 2), left[k]);
        }
        due("no fourth", y.group(3, 0), NONE);
    }

    /** A parish alone, whom nobody leaves: what it has behind n days, by the document's words. */
    private static int drawnCount(int seed, int n, int count) {
        long s = seed;
        int c = count;
        for (int day = 0; day < n; day++) {
            s = (s * 1103 + 12345) % 1000003;
            s = (s * 1103 + 12345) % 1000003;
            if (s % 3 == 0) {
                c = Math.min(999, c + 1);
            } else if (s % 3 == 1) {
                c = Math.max(0, c - 1);
            }
        }
        return c;
    }

    private static void yearsSeed() {
        says("IV, 31: the SEED (0 .. 1,000,000)");
        Used x = Check.lone(500);
        Check.rule(x, "bars");
        int[] wrong = {-1, 1000001, 1000002, 1000003, MAX, MIN};
        for (int seed : wrong) {
            due("seed " + seed, x.years(seed, 1), -1);
            due("by status", x.status(), -1);
            due("none is kept", x.drawn(0, 0), NONE);
        }
        int[] well = {0, 1, 2, 999999, 1000000};
        for (int seed : well) {
            due("seed " + seed, x.years(seed, 50), 0);
            due("by status", x.status(), 0);
            due("behind it", x.drawn(0, 0), drawnCount(seed, 50, 500));
        }
    }

    private static void yearsDays() {
        says("IV, 31: n days 1 .. 100");
        Used x = Check.lone(500);
        Check.rule(x, "bars");
        int[] wrong = {0, -1, 101, MAX, MIN};
        for (int n : wrong) {
            due("n " + n, x.years(7, n), -1);
            due("by status", x.status(), -1);
        }
        // By these seeds somebody is born or dies on the first day, and on the last two.
        int[] seeds = {16554, 140986, 172094};
        int[] well = {1, 2, 98, 99, 100};
        for (int seed : seeds) {
            int was = 500;
            for (int n : well) {
                due("n " + n, x.years(seed, n), 0);
                due("behind it", x.drawn(0, 0), drawnCount(seed, n, 500));
                due("that day tells", n == 2 || n == 98 || x.drawn(0, 0) != was ? 1 : 0, 1);
                was = x.drawn(0, 0);
            }
        }
        // Nine days until those who walk arrive.
        Used y = Check.lone(3);
        Check.rule(y, "steps 9");
        y.reckon(0);
        Check.rule(y, "bars");
        due("eight days", y.years(0, 8), 0);
        due("they walk", y.drawn(0, 2), 3);
        due("nine days", y.years(0, 9), 3);
        due("nobody walks", y.drawn(0, 2), 0);
    }

    private static void yearsDraws() {
        says("IV: s becomes (s times 1103 and 12345) modulo 1,000,003, it is s modulo m");
        // Seed 0: 12345, 628841, which is 2 modulo 3. Seed 2: 14551, 62050: 1. Seed 1,000,000: 9036, 979026: 0.
        Used x = Check.lone(57);
        due("reckoned", x.years(0, 1), 7);
        due("by them", x.drawn(0, 0), 50);
        due("one dies", x.years(2, 1), 0);
        due("of them", x.drawn(0, 0), 56);
        due("one is born", x.years(1000000, 1), 0);
        due("to them", x.drawn(0, 0), 58);
        due("WALKED", x.drawn(0, 1), 0);
    }

    private static void yearsOfParishes() {
        says("IV: DRAWS of PARISHES");
        // Seed 1,000,000 draws 9036 first, then that one is born there.
        for (int m = 1; m <= 10; m++) {
            Used x = new Used();
            for (int p = 0; p < m; p++) {
                x.parish(NONE, 40);
            }
            x.years(1000000, 1);
            for (int p = 0; p < m; p++) {
                due("of " + m + ", " + p, x.drawn(p, 0), p == 9036 % m ? 41 : 40);
            }
            due("no more of them", x.drawn(m, 0), NONE);
        }
        says("31: -3 there are no PARISHES");
        Used none = new Used();
        due("none", none.years(0, 1), -3);
        due("by status", none.status(), -3);
        due("none is kept", none.drawn(0, 2), NONE);
        none.parish(NONE, 0);
        due("one", none.years(0, 1), 0);
    }

    private static void yearsTo999() {
        says("IV: one is born there (999 at most)");
        int[] before = {997, 998, 999};
        int[] then = {998, 999, 999};
        for (int i = 0; i < 3; i++) {
            Used x = Check.lone(before[i]);
            x.years(1000000, 1);
            due("born to " + before[i], x.drawn(0, 0), then[i]);
        }
    }

    private static void yearsDies() {
        says("IV: one dies (if there is one)");
        int[] before = {0, 1, 2};
        int[] then = {0, 0, 1};
        for (int i = 0; i < 3; i++) {
            Used x = Check.lone(before[i]);
            x.years(2, 1);
            due("dies of " + before[i], x.drawn(0, 0), then[i]);
            due("that is no walking", x.drawn(0, 1), 0);
        }
    }

    private static void yearsReckons() {
        says("IV: it is reckoned, if it can be; then it PASSES");
        Used x = Check.lone(57);
        Check.rule(x, "steps 2");
        due("not come yet", x.years(0, 1), 0);
        due("they walk", x.drawn(0, 2), 7);
        due("WALKED", x.drawn(0, 1), 7);
        due("COUNT", x.drawn(0, 0), 50);
        Check.rule(x, "bars");
        due("BARRED", x.years(0, 1), 0);
        due("all are there", x.drawn(0, 0), 57);
        due("nobody walks", x.drawn(0, 2), 0);
        Check.rule(x, "steps 9;tens 99;stays over-1");
        for (int i = 0; i < 16; i++) {
            due("one walks", x.reckon(0), 1);
        }
        due("no room", x.years(0, 1), 0);
        due("sixteen walk", x.drawn(0, 2), 16);
        due("COUNT stays", x.drawn(0, 0), 41);
        x.undo();
        x.years(0, 1);
        due("room for one", x.drawn(0, 2), 16);
        due("COUNT is less", x.drawn(0, 0), 41);
        // Seed 7: one is born on the first day, it is reckoned on the second.
        Used z = Check.lone(57);
        due("8 walk on the second", z.years(7, 2), 8);
        Check.rule(z, "bars if day=0");
        due("DAY is 1 then", z.years(7, 2), 8);
        Check.rule(z, "bars if day=1");
        due("so that this bars", z.years(7, 2), 0);
        Used y = valleys();
        due("to a PARISH, not to the SEA", y.years(0, 1), 0);
        due("there", y.drawn(0, 0), 30);
    }

    private static void yearsEnd() {
        says("IV: at DAY 999 it ends");
        Used x = Check.lone(500);
        Check.rule(x, "bars");
        int[] days = {899, 900, 901, 997, 998, 999};
        int[] passed = {100, 99, 98, 2, 1, 0};
        int[] seeds = {16554, 140986, 172094};
        for (int i = 0; i < days.length; i++) {
            x.terms(0, days[i]);
            for (int seed : seeds) {
                due("from " + days[i], x.years(seed, 100), 0);
                due("behind it", x.drawn(0, 0), drawnCount(seed, passed[i], 500));
            }
        }
        x.terms(0, 990);
        Check.rule(x, "steps 9;tens 99");
        due("they set out", x.reckon(0), 5);
        Check.rule(x, "bars");
        due("nine days are left", x.years(0, 100), 5);
        x.terms(0, 991);
        due("eight days are left", x.years(0, 100), 0);
        due("they walk", x.drawn(0, 2), 5);
        x.terms(0, 999);
        due("none is left", x.years(0, 100), 0);
        due("that is not REFUSED", x.status(), 0);
        due("they walk still", x.drawn(0, 2), 5);
    }

    private static void drawnWhat() {
        says("32: COUNT (what 0), WALKED (1) of PARISH k, how many walk (2; k aside); NONE");
        Used x = valleys();
        for (int what = -1; what < 4; what++) {
            due("ahead of any", x.drawn(0, what), NONE);
        }
        x.years(0, 1);
        due("COUNT", x.drawn(1, 0), 10);
        due("WALKED", x.drawn(1, 1), 7);
        due("COUNT of the last", x.drawn(3, 0), 45);
        int[] none = {-1, 4, 9, 10, MAX, MIN};
        for (int k : none) {
            due("COUNT of " + k, x.drawn(k, 0), NONE);
            due("WALKED of " + k, x.drawn(k, 1), NONE);
            due("who walks, " + k + " aside", x.drawn(k, 2), 0);
        }
        int[] wrong = {-1, 3, MAX, MIN};
        for (int what : wrong) {
            due("what " + what, x.drawn(0, what), NONE);
        }
        due("that is not REFUSED", x.status(), 0);
    }

    private static void drawnOfLatest() {
        says("31: YEARS, kept as the latest");
        Used x = Check.lone(57);
        x.years(1000000, 1);
        due("the first", x.drawn(0, 0), 58);
        x.years(2, 1);
        due("the second", x.drawn(0, 0), 56);
        x.years(-1, 1);
        x.years(0, 101);
        due("REFUSED ones leave it", x.drawn(0, 0), 56);
        x.grow(0, 9);
        x.reckon(0);
        x.flow(60, 1);
        Check.orders(x, "grow 0 by 9;reckon 0;reckon 5");
        due("others, too", x.drawn(0, 0), 56);
        due("nobody walks in it", x.drawn(0, 2), 0);
        x.parish(NONE, 5);
        due("it has no PARISH 1", x.drawn(1, 0), NONE);
        x.years(2, 1);
        due("then it has", x.drawn(1, 0) != NONE ? 1 : 0, 1);
    }

    private static void imageWhich() {
        says("33, 34: IMAGES 0, 1; -1; -2 it was not kept");
        Used x = Check.lone(5);
        int[] wrong = {-1, 2, MAX, MIN};
        for (int k : wrong) {
            due("image(" + k + ")", x.image(k), -1);
            due("by status", x.status(), -1);
            due("back(" + k + ")", x.back(k), -1);
            due("by status", x.status(), -1);
        }
        due("0 is not kept", x.back(0), -2);
        due("1 is not kept", x.back(1), -2);
        due("by status", x.status(), -2);
        due("image(1)", x.image(1), 0);
        due("0 is not kept still", x.back(0), -2);
        x.grow(0, 1);
        due("back(1)", x.back(1), 0);
        due("by status", x.status(), 0);
        due("as it was", x.of(0, 1), 5);
        due("image(0)", x.image(0), 0);
        due("back(0)", x.back(0), 0);
        due("-1 so often", x.count(8), 8);
        due("-2 so often", x.count(9), 3);
        Used empty = new Used();
        empty.image(0);
        empty.parish(NONE, 5);
        due("back to none at all", empty.back(0), 0);
        due("none", empty.count(0), 0);
        due("the next is the first", empty.parish(NONE, 6), 0);
    }

    private static void imageKeeps() {
        says("IV: BACK to one all that it keeps is as it was then");
        Used x = valleys();
        Check.rule(x, "steps 1+parish;stays 1");
        x.terms(0, 5);
        x.terms(1, 9);
        x.terms(2, 4);
        x.terms(3, 6);
        x.hear(1, 3);
        Check.orders(x, "reckon 0;reckon 3;pass;reckon 2;reckon 1");
        x.image(0);
        x.back(0);
        String was = Check.seen(x);
        int hidden = x.hidden(NONE);
        x.parish(3, 99);
        Check.orders(x, "pass;pass;reckon 4;reckon 0;lend 4 to 3;grow 1 by 9;pass");
        x.hear(0, 0);
        x.hear(0, 1);
        Check.rule(x, "tens 5;bars");
        x.terms(0, 50);
        x.terms(1, 90);
        x.terms(2, 10);
        x.terms(3, 9);
        due("all is otherwise", Check.seen(x).equals(was) ? 1 : 0, 0);
        due("back", x.back(0), 0);
        due("all is as it was", Check.seen(x).equals(was) ? 1 : 0, 1);
        due("HEARD as then", x.hidden(NONE), hidden);
        due("the LAW as then: steps", x.of(3, 7), 4);
        due("the LAW as then: stays", x.of(1, 6), x.of(1, 5) - Math.min(1, x.of(1, 5)));
        due("one LAW", x.count(5), 1);
        due("the other is gone", x.force(1), -2);
        due("a new one has its number", Check.law(x, "tens 8"), 1);
        due("no PARISH 4", x.of(4, 1), NOTHING);
        due("a new one has its number", x.parish(0, 7), 4);
        due("nobody walked from it", x.of(4, 3), 0);
        imageOfHeard();
        imageOfValleys();
    }

    private static void imageOfHeard() {
        says("IV: BACK to what was HEARD");
        Used x = new Used();
        x.parish(NONE, 5);
        x.parish(NONE, 6);
        x.hear(0, 4);
        x.image(0);
        x.forget();
        x.hear(1, 4);
        due("of the other", x.hidden(NONE), 0);
        x.back(0);
        due("of this", x.hidden(NONE), 1);
        x.forget();
        x.hear(0, 5);
        due("so many", x.hidden(0), 1);
        x.back(0);
        due("so many as then", x.hidden(0), 0);
    }

    private static void imageOfValleys() {
        says("IV: BACK to how the valleys lay");
        Used x = new Used();
        x.image(0);
        x.parish(NONE, 5);
        x.parish(0, 6);
        x.parish(1, 7);
        x.reckon(2);
        x.image(1);
        x.back(0);
        x.parish(NONE, 1);
        x.parish(NONE, 2);
        x.parish(0, 3);
        due("depth anew", x.of(2, 2), 1);
        due("below anew", x.of(2, 0), 0);
        due("walked anew", x.of(2, 3), 0);
        x.back(1);
        int[] want = {1, 0, 2, 7};
        for (int what = 0; what < 4; what++) {
            due("of(2, " + what + ")", x.of(2, what), want[what]);
        }
        due("they walk", x.group(0, 1), 7);
        due("to 1", x.pass() == 7 ? x.of(1, 1) : NONE, 13);
    }

    private static void imageKeepsNot() {
        says("IV: IMAGES keep not the TAPE, FAULT, STONES, where ORDERS stopped, what can be undone, the latest YEARS");
        Used x = Check.lone(57);
        x.image(0);
        x.grow(0, 1);
        row(x, 0, 2, 9, 9, 9, 9);
        Check.orders(x, "pass;reckon 5");
        due("stopped", x.stopped(), 1);
        Check.law(x, "tens x");
        x.years(1000000, 1);
        x.feed(1, 2, 3, 4, 5);
        x.grow(0, 2);
        int[] refused = {x.count(8), x.count(9), x.count(10), x.count(11), x.count(12)};
        due("back", x.back(0), 0);
        due("COUNT", x.of(0, 1), 57);
        due("the TAPE", x.count(7), 20);
        due("FAULT", x.fault(), 5);
        due("STONES", x.stones(), 2);
        due("where ORDERS stopped", x.stopped(), 1);
        due("the latest YEARS", x.drawn(0, 0), 59);
        due("nothing can be undone", x.count(6), 0);
        due("nothing is", x.undo(), -3);
        for (int i = 0; i < 5; i++) {
            due("how many were REFUSED", x.count(8 + i), refused[i] + (i == 2 ? 1 : 0));
        }
        x.image(1);
        due("image() leaves the TAPE", x.count(7), 20);
        due("and FAULT", x.fault(), 5);
        x.grow(0, 1);
        x.image(1);
        due("and what can be undone", x.undo(), 3);
    }

    private static void imagesStay() {
        says("IV: IMAGES stay");
        Used x = Check.lone(50);
        x.image(0);
        x.grow(0, 1);
        x.image(1);
        x.grow(0, 1);
        due("back 0", x.back(0), 0);
        due("50", x.of(0, 1), 50);
        due("back 1", x.back(1), 0);
        due("51", x.of(0, 1), 51);
        x.grow(0, 9);
        x.reckon(0);
        due("back 0 again", x.back(0), 0);
        due("50 again", x.of(0, 1), 50);
        x.grow(0, 7);
        due("back 1 again", x.back(1), 0);
        due("51 again", x.of(0, 1), 51);
        x.grow(0, 3);
        x.image(0);
        x.grow(0, 3);
        due("the newer 0", x.back(0), 0);
        due("54", x.of(0, 1), 54);
        due("1 is as it was", x.back(1), 0);
        due("51 still", x.of(0, 1), 51);
        due("a REFUSED one changes none", x.image(2), -1);
        x.back(0);
        due("54 still", x.of(0, 1), 54);
    }

    private static void countWhat() {
        says("35: count(0) .. count(17), NONE for others");
        Used x = valleys();
        x.reckon(1);
        x.reckon(0);
        x.pass();
        x.reckon(2);
        x.reckon(3);
        x.hear(0, 0);
        x.hear(0, 1);
        x.hear(0, 2);
        Check.law(x, "tens 5");
        Check.law(x, "tens 6");
        x.force(1);
        x.feed(0, 0, 0, 0, 0);
        x.end(7);
        int[] want = {4, 2, 13, 3, 3, 2, 5, 7, 0, 0, 0, 0, 0, 1, 1, 10, 2, 0};
        for (int what = 0; what < want.length; what++) {
            due("count(" + what + ")", x.count(what), want[what]);
        }
        int[] wrong = {-1, -2, 18, 19, MAX, MIN};
        for (int what : wrong) {
            due("count(" + what + ")", x.count(what), NONE);
        }
        x.terms(0, 7);
        x.terms(1, 8);
        x.terms(2, 9);
        x.terms(3, 5);
        int[] terms = {7, 8, 9, 5};
        for (int i = 0; i < 4; i++) {
            due("TERM " + i, x.count(14 + i), terms[i]);
        }
        x.force(NONE);
        due("no LAW in FORCE", x.count(13), NONE);
    }

    private static void countRefused() {
        says("35: 8 .. 12 how many calls were REFUSED by -1, -2, -3, -5, -6");
        Used x = Check.lone(5);
        x.terms(9, 9);
        due("-1 once", x.count(8), 1);
        x.force(0);
        x.force(0);
        due("-2 twice", x.count(9), 2);
        x.undo();
        x.undo();
        x.lend(0, 0, 1);
        due("-3 three times", x.count(10), 3);
        for (int i = 0; i < 12; i++) {
            x.hear(0, 0);
        }
        due("-5 four times", x.count(11), 4);
        for (int i = 0; i < 5; i++) {
            x.row();
        }
        due("-6 five times", x.count(12), 5);
        due("ORDERS that can't be", Check.orders(x, "reckon 9"), -3);
        due("are one of -3", x.count(10), 4);
        due("and none of -2", x.count(9), 2);
        x.image(0);
        x.row();
        x.back(0);
        due("IMAGES do not keep that", x.count(12), 6);
        int[] want = {1, 2, 4, 4, 6};
        x.of(99, 0);
        x.group(99, 0);
        x.feed(0, 0, 0, 0, 0);
        x.end(99);
        x.once(99);
        x.fewest(99);
        x.lent(99);
        x.odds(99, 0, 0);
        x.best(99);
        x.hidden(99);
        x.look(99);
        x.moved(99);
        x.flow(99, 0);
        x.drawn(99, 0);
        x.count(99);
        for (int i = 0; i < 5; i++) {
            due("what answers NONE, NOTHING is none of them", x.count(8 + i), want[i]);
        }
    }

    /** Tells what a call is refused by, and that a good one leaves 0. */
    private static void status(String call, Used x, int answer, int want) {
        due(call, answer < 0 && want != 0 ? answer : 0, want);
        due("status behind " + call, x.status(), want);
    }

    private static void statusOfEach() {
        says("36: what the latest of these was REFUSED by; 0 if it was not, or ahead of any");
        Used x = new Used();
        due("ahead of any", x.status(), 0);
        status("years", x, x.years(0, 1), -3);
        status("parish", x, x.parish(NONE, 5), 0);
        status("parish", x, x.parish(9, 5), -1);
        status("terms", x, x.terms(1, 10), 0);
        status("terms", x, x.terms(1, 1), -1);
        Check.tape(x, 1, 0, 5);
        status("row", x, x.row(), 0);
        status("row", x, x.row(), -6);
        status("law", x, Check.law(x, "tens 5"), 0);
        status("law", x, x.law(), -6);
        status("orders", x, Check.orders(x, "pass"), 0);
        status("orders", x, Check.orders(x, "reckon 9"), -3);
        status("orders, none run", x, Check.orders(x, "pass if 1=2"), 0);
        status("orders", x, x.orders(), -6);
        status("force", x, x.force(0), 0);
        status("force", x, x.force(1), -2);
        status("force NONE", x, x.force(NONE), 0);
        status("reckon", x, x.reckon(9), -2);
        status("reckon", x, x.reckon(0), 0);
        status("lend", x, x.lend(0, 0, 1), -3);
        status("pass", x, x.pass(), 0);
        status("lend", x, x.lend(0, 0, 0), -1);
        status("lend", x, x.lend(1, 0, 1), 0);
        status("grow", x, x.grow(0, -99), -3);
        status("grow", x, x.grow(0, 5), 0);
        status("grow", x, x.grow(9, 5), -2);
        status("undo", x, x.undo(), 0);
        status("hear", x, x.hear(0, 99), -1);
        status("hear", x, x.hear(0, 0), 0);
        status("hear", x, x.hear(9, 0), -2);
        status("years", x, x.years(0, 1), 0);
        status("years", x, x.years(0, 0), -1);
        status("image", x, x.image(0), 0);
        status("image", x, x.image(2), -1);
        status("back", x, x.back(0), 0);
        status("back", x, x.back(1), -2);
        x.terms(0, 999);
        status("pass", x, x.pass(), -3);
        status("terms", x, x.terms(0, 0), 0);
        status("undo", x, x.undo(), -3);
    }

    private static void statusOfOthers() {
        says("36: the latest call of these, others aside");
        int[] by = {-1, 0};
        for (int want : by) {
            Used x = valleys();
            x.terms(1, want == 0 ? 10 : 1);
            x.of(0, 0);
            x.of(9, 9);
            x.group(9, 9);
            x.feed(0, 0, 0, 0, 0);
            x.end(99);
            x.end(0);
            x.stones();
            x.fault();
            x.stopped();
            x.once(9);
            x.once(0);
            x.fewest(9);
            x.lent(0);
            x.odds(9, 9, 9);
            x.best(9);
            x.forget();
            x.hidden(9);
            x.look(9);
            x.moved(9);
            x.flow(99, 9);
            x.drawn(9, 9);
            x.count(99);
            x.status();
            due("as it was", x.status(), want);
        }
    }
}
