/** What the tests of boundaries share: their words for the ends of a range, and valleys to start from. */
abstract class Bounds {
    static final int NONE = OverByTens.NONE;
    static final int NOTHING = OverByTens.NOTHING;
    static final int MAX = Integer.MAX_VALUE;
    static final int MIN = Integer.MIN_VALUE;

    static void due(String call, long got, long want) {
        Check.due(call, got, want);
    }

    static void says(String sentence) {
        Check.says(sentence);
    }

    /** Each parish above the one ahead of it. */
    static Used inARow(int... counts) {
        Used x = new Used();
        for (int i = 0; i < counts.length; i++) {
            due("parish " + i, x.parish(i - 1, counts[i]), i);
        }
        return x;
    }

    static Used atSea(int... counts) {
        Used x = new Used();
        for (int i = 0; i < counts.length; i++) {
            due("parish " + i, x.parish(NONE, counts[i]), i);
        }
        return x;
    }

    /** The valleys of the examples: 0 at the sea, 1 and 2 above it, 3 above 1. */
    static Used valleys() {
        Used x = atSea(23);
        x.parish(0, 17);
        x.parish(0, 8);
        x.parish(1, 45);
        return x;
    }
}
