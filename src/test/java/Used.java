/**
 * An object of the class, as tests use it: beyond 512 calls any answer is
 * free, so that a test that goes on beyond them would hold nothing.
 */
final class Used {
    private static final int MOST_CALLS = 512;

    private final OverByTens x = new OverByTens();
    private int calls = 0;

    private OverByTens next() {
        calls++;
        if (calls == MOST_CALLS + 1) {
            Check.due("calls of one object in a test", calls, MOST_CALLS);
        }
        return x;
    }

    int parish(int below, int count) {
        return next().parish(below, count);
    }

    int of(int parish, int what) {
        return next().of(parish, what);
    }

    int group(int k, int what) {
        return next().group(k, what);
    }

    int terms(int what, int value) {
        return next().terms(what, value);
    }

    int feed(int a, int b, int c, int d, int e) {
        return next().feed(a, b, c, d, e);
    }

    int end(int n) {
        return next().end(n);
    }

    int row() {
        return next().row();
    }

    int stones() {
        return next().stones();
    }

    int law() {
        return next().law();
    }

    int orders() {
        return next().orders();
    }

    int fault() {
        return next().fault();
    }

    int stopped() {
        return next().stopped();
    }

    int force(int law) {
        return next().force(law);
    }

    int reckon(int parish) {
        return next().reckon(parish);
    }

    int pass() {
        return next().pass();
    }

    int lend(int from, int to, int men) {
        return next().lend(from, to, men);
    }

    int grow(int parish, int by) {
        return next().grow(parish, by);
    }

    int undo() {
        return next().undo();
    }

    int once(int parish) {
        return next().once(parish);
    }

    int fewest(int what) {
        return next().fewest(what);
    }

    int lent(int what) {
        return next().lent(what);
    }

    long odds(int parish, int n, int over) {
        return next().odds(parish, n, over);
    }

    int best(int what) {
        return next().best(what);
    }

    int hear(int parish, int over) {
        return next().hear(parish, over);
    }

    int forget() {
        return next().forget();
    }

    int hidden(int i) {
        return next().hidden(i);
    }

    int look(int what) {
        return next().look(what);
    }

    int moved(int parish) {
        return next().moved(parish);
    }

    int flow(int n, int what) {
        return next().flow(n, what);
    }

    int years(int seed, int n) {
        return next().years(seed, n);
    }

    int drawn(int k, int what) {
        return next().drawn(k, what);
    }

    int image(int k) {
        return next().image(k);
    }

    int back(int k) {
        return next().back(k);
    }

    int count(int what) {
        return next().count(what);
    }

    int status() {
        return next().status();
    }
}
