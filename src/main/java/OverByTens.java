/**
 * Parishes down valleys that join, people had by tens, and those left over
 * walking on down to the sea. What each call does is told in DOC.md; the
 * comments here tell only why it is done so.
 */
public final class OverByTens {
    public static final int NONE = -1;
    public static final int NOTHING = -1000;

    private static final int BAD_NUMBER = -1;
    private static final int NO_SUCH = -2;
    private static final int CANNOT = -3;
    private static final int NO_ROOM = -5;
    private static final int BAD_TEXT = -6;

    private static final int MOST_PARISHES = 10;
    private static final int MOST_COUNT = 999;
    private static final int MOST_WALKED = 99999;
    private static final int MOST_GROUPS = 16;
    private static final int MOST_HEARD = 8;
    private static final int MOST_OVER = 98;
    private static final int MOST_LAWS = 6;
    private static final int MOST_UNDONE = 16;
    private static final int MOST_TAPE = 400;
    private static final int MOST_CLAUSES = 12;
    private static final int MOST_TIMES = 20;
    private static final int LAST_DAY = 999;
    private static final int LEAST_TEN = 2;
    private static final int MOST_TEN = 99;

    private static final int DAY = 0;
    private static final int BY = 1;
    private static final int RATE = 2;
    private static final int MOOD = 3;
    private static final int[] TERM_LEAST = {0, 2, 0, 0};
    private static final int[] TERM_MOST = {999, 99, 10, 9};

    // The kinds of orders are the numbers that undo() tells.
    private static final int RECKONING = 0;
    private static final int PASSING = 1;
    private static final int LENDING = 2;
    private static final int GROWING = 3;

    private static final int TENS = 0;
    private static final int STAYS = 1;
    private static final int STEPS = 2;
    private static final int BARS = 3;

    private int bytes;
    private final Land land = new Land();
    private final Land[] images = new Land[2];
    private final boolean[] imageKept = new boolean[2];
    private final Land yearsEnd = new Land();
    private boolean yearsKept;
    private final Past past = new Past();
    private final Court court = new Court();
    private final Runner runner = new Runner();
    private final Paper paper = new Paper();
    private final Reader reader = new Reader();
    private final int[] refusals = new int[5];
    private int latestRefusal;
    private int faultAt = NONE;
    private int stoppedAt = NONE;
    private int stonesSeen;

    public OverByTens() {
        images[0] = new Land();
        images[1] = new Land();
    }

    public int parish(int below, int count) {
        int number = land.addParish(below, count);
        if (number >= 0) {
            past.clear();
        }
        return settle(number);
    }

    public int of(int parish, int what) {
        if (!land.has(parish) || what < 0 || what > 9) {
            return NOTHING;
        }
        court.ask(land, parish, 0);
        switch (what) {
            case 0: return land.below[parish];
            case 1: return land.counts[parish];
            case 2: return land.depths[parish];
            case 3: return land.walked[parish];
            case 4: return court.tens;
            case 5: return court.over;
            case 6: return court.walkers();
            case 7: return court.steps;
            case 8: return court.barred ? 1 : 0;
            default: return paper.stepsToSea(land, parish);
        }
    }

    public int group(int k, int what) {
        if (k < 0 || k >= land.groups || k >= MOST_GROUPS) {
            return NONE;
        }
        switch (what) {
            case 0: return land.from[k];
            case 1: return land.sizes[k];
            case 2: return land.left[k];
            default: return NONE;
        }
    }

    public int terms(int what, int value) {
        if (what < 0 || what >= TERM_MOST.length
                || value < TERM_LEAST[what] || value > TERM_MOST[what]) {
            return settle(BAD_NUMBER);
        }
        int was = land.terms[what];
        land.terms[what] = value;
        past.clear();
        return settle(was);
    }

    public int feed(int a, int b, int c, int d, int e) {
        if (bytes + 20 > MOST_TAPE) {
            return NONE;
        }
        putFour(a);
        putFour(b);
        putFour(c);
        putFour(d);
        putFour(e);
        return bytes;
    }

    public int end(int n) {
        if (n < 0 || n > bytes) {
            return NONE;
        }
        bytes = n;
        return n;
    }

    public int row() {
        if (bytes == 0) {
            return settle(BAD_TEXT);
        }
        int came = 0;
        int stones = 0;
        for (int at = 0; at < bytes; at += 3) {
            if (addFromTape(at)) {
                came++;
            } else {
                stones++;
            }
        }
        bytes = 0;
        stonesSeen = stones;
        past.clear();
        return settle(came);
    }

    public int stones() {
        return stonesSeen;
    }

    public int law() {
        int length = bytes;
        bytes = 0;
        if (land.lawsMade >= MOST_LAWS) {
            return settle(NO_ROOM);
        }
        faultAt = reader.read(length, false);
        if (faultAt != NONE) {
            return settle(BAD_TEXT);
        }
        land.laws[land.lawsMade] = reader.text.trimmed();
        land.lawsMade++;
        return settle(land.lawsMade - 1);
    }

    public int orders() {
        int length = bytes;
        bytes = 0;
        stoppedAt = NONE;
        faultAt = reader.read(length, true);
        if (faultAt != NONE) {
            return settle(BAD_TEXT);
        }
        // Run on paper first: where it stops there, nothing here has changed.
        paper.sheet.takeFrom(land);
        stoppedAt = runner.runAll(reader.text, paper.sheet, null);
        if (stoppedAt != NONE) {
            return settle(CANNOT);
        }
        runner.runAll(reader.text, land, past);
        return settle(runner.done);
    }

    public int fault() {
        return faultAt;
    }

    public int stopped() {
        return stoppedAt;
    }

    public int force(int law) {
        if (law != NONE && (law < 0 || law >= land.lawsMade)) {
            return settle(NO_SUCH);
        }
        int was = land.forced;
        land.forced = law;
        // "None was" is -1 too, and is no refusal.
        latestRefusal = 0;
        return was;
    }

    public int reckon(int parish) {
        return actNow(RECKONING, parish, 0, 0);
    }

    public int pass() {
        return actNow(PASSING, 0, 0, 0);
    }

    public int lend(int from, int to, int men) {
        return actNow(LENDING, from, to, men);
    }

    public int grow(int parish, int by) {
        return actNow(GROWING, parish, by, 0);
    }

    public int undo() {
        int kind = past.takeBack(land);
        return settle(kind == NONE ? CANNOT : kind);
    }

    public int once(int parish) {
        if (parish != NONE && !land.has(parish)) {
            return NONE;
        }
        int toSea = paper.atOnce(land, NONE, 0, 0);
        return parish == NONE ? toSea : paper.walkers[parish];
    }

    public int fewest(int what) {
        if (what < 0 || what > 1) {
            return NONE;
        }
        paper.findFewest(land);
        return what == 0 ? paper.fewestWalk : paper.fewestBits;
    }

    public int lent(int what) {
        if (what < 0 || what > land.parishes || !paper.findLent(land)) {
            return NOTHING;
        }
        return what == 0 ? paper.lentTogether : paper.lentDown[what - 1];
    }

    public long odds(int parish, int n, int over) {
        if (!land.has(parish) || n < 0 || n > 60 || over < 0 || over > MOST_OVER) {
            return NONE;
        }
        return paper.partsOver(land, parish, n, over);
    }

    public int best(int what) {
        if (what < 0 || what > 1) {
            return NONE;
        }
        paper.findBest(land);
        return what == 0 ? paper.bestTen : paper.bestToSea;
    }

    public int hear(int parish, int over) {
        if (over < 0 || over > MOST_OVER) {
            return settle(BAD_NUMBER);
        }
        if (!land.has(parish)) {
            return settle(NO_SUCH);
        }
        if (land.heard >= MOST_HEARD) {
            return settle(NO_ROOM);
        }
        land.heardOf[land.heard] = parish;
        land.heardOver[land.heard] = over;
        land.heard++;
        return settle(land.heard);
    }

    public int forget() {
        int had = land.heard;
        land.heard = 0;
        return had;
    }

    public int hidden(int i) {
        paper.findHidden(land);
        if (i == NONE) {
            return paper.hiddenOnes;
        }
        return i >= 0 && i < paper.hiddenOnes ? paper.hiddenAt[i] : NONE;
    }

    public int look(int what) {
        if (what < 0 || what > 1) {
            return NONE;
        }
        paper.findLook(land);
        return what == 0 ? paper.lookAt : paper.lookLeft;
    }

    public int moved(int parish) {
        if (!land.has(parish) || land.counts[parish] >= MOST_COUNT) {
            return NONE;
        }
        return paper.movedBits(land, parish);
    }

    public int flow(int n, int what) {
        if (n < 1 || n > 60 || what < 0 || what > 2) {
            return NONE;
        }
        paper.findFlow(land, n);
        switch (what) {
            case 0: return paper.flowFirst;
            case 1: return paper.flowToSea;
            default: return paper.flowGroups;
        }
    }

    public int years(int seed, int n) {
        if (seed < 0 || seed > 1000000 || n < 1 || n > 100) {
            return settle(BAD_NUMBER);
        }
        if (land.parishes == 0) {
            return settle(CANNOT);
        }
        yearsEnd.takeFrom(land);
        yearsKept = true;
        return settle(paper.drawDays(yearsEnd, seed, n));
    }

    public int drawn(int k, int what) {
        if (!yearsKept) {
            return NONE;
        }
        if (what == 2) {
            return yearsEnd.walking();
        }
        if (!yearsEnd.has(k)) {
            return NONE;
        }
        switch (what) {
            case 0: return yearsEnd.counts[k];
            case 1: return yearsEnd.walked[k];
            default: return NONE;
        }
    }

    public int image(int k) {
        if (k < 0 || k >= images.length) {
            return settle(BAD_NUMBER);
        }
        images[k].takeFrom(land);
        imageKept[k] = true;
        return settle(0);
    }

    public int back(int k) {
        if (k < 0 || k >= images.length) {
            return settle(BAD_NUMBER);
        }
        if (!imageKept[k]) {
            return settle(NO_SUCH);
        }
        land.takeFrom(images[k]);
        past.clear();
        return settle(0);
    }

    public int count(int what) {
        switch (what) {
            case 0: return land.parishes;
            case 1: return land.groups;
            case 2: return land.walking();
            case 3: return land.sea;
            case 4: return land.heard;
            case 5: return land.lawsMade;
            case 6: return past.kept;
            case 7: return bytes;
            case 8: case 9: case 10: case 11: case 12: return refusals[what - 8];
            case 13: return land.forced;
            case 14: case 15: case 16: case 17: return land.terms[what - 14];
            default: return NONE;
        }
    }

    public int status() {
        return latestRefusal;
    }

    private int settle(int answer) {
        latestRefusal = answer < 0 ? answer : 0;
        switch (answer) {
            case BAD_NUMBER: refusals[0]++; break;
            case NO_SUCH: refusals[1]++; break;
            case CANNOT: refusals[2]++; break;
            case NO_ROOM: refusals[3]++; break;
            case BAD_TEXT: refusals[4]++; break;
            default: break;
        }
        return answer;
    }

    private int actNow(int kind, int a, int b, int men) {
        past.note(kind, land);
        int answer = land.act(kind, a, b, men, court);
        if (answer >= 0) {
            past.keep();
        }
        return settle(answer);
    }

    private void putFour(int number) {
        for (int shift = 24; shift >= 0 && bytes < MOST_TAPE; shift -= 8) {
            reader.tape[bytes] = (number >>> shift) & 255;
            bytes++;
        }
    }

    private boolean addFromTape(int at) {
        int[] tape = reader.tape;
        if (at < 0 || at + 2 >= bytes || at + 2 >= tape.length || tape[at + 2] > 9) {
            return false;
        }
        return land.addParish(tape[at] - 1, 10 * tape[at + 1] + tape[at + 2]) >= 0;
    }

    private static int bounded(int value, int least, int most) {
        return value < least ? least : value > most ? most : value;
    }

    /** All that an image keeps, and what can be done to it. */
    private static final class Land {
        final int[] below = new int[MOST_PARISHES];
        final int[] depths = new int[MOST_PARISHES];
        final int[] counts = new int[MOST_PARISHES];
        final int[] walked = new int[MOST_PARISHES];
        final int[] from = new int[MOST_GROUPS];
        final int[] sizes = new int[MOST_GROUPS];
        final int[] left = new int[MOST_GROUPS];
        final int[] terms = {0, 10, 2, 0};
        final int[] heardOf = new int[MOST_HEARD];
        final int[] heardOver = new int[MOST_HEARD];
        final Text[] laws = new Text[MOST_LAWS];
        int parishes;
        int groups;
        int sea;
        int heard;
        int lawsMade;
        int forced = NONE;
        int cameToSea;

        boolean has(int p) {
            return p >= 0 && p < parishes && p < MOST_PARISHES;
        }

        Text lawInForce() {
            return forced >= 0 && forced < lawsMade && forced < MOST_LAWS ? laws[forced] : null;
        }

        int walking() {
            int together = 0;
            for (int g = 0; g < groups && g < MOST_GROUPS; g++) {
                together += sizes[g];
            }
            return together;
        }

        int addParish(int under, int people) {
            if (under < NONE || under >= parishes || people < 0 || people > MOST_COUNT) {
                return BAD_NUMBER;
            }
            if (parishes >= MOST_PARISHES) {
                return NO_ROOM;
            }
            below[parishes] = under;
            depths[parishes] = under == NONE ? 0 : depths[under] + 1;
            counts[parishes] = people;
            walked[parishes] = 0;
            parishes++;
            return parishes - 1;
        }

        /** One of the four things that undo() knows: an answer, or what refuses it. */
        int act(int kind, int a, int b, int men, Court court) {
            switch (kind) {
                case RECKONING: return sendFrom(a, court);
                case PASSING: return terms[DAY] < LAST_DAY ? passDay() : CANNOT;
                case LENDING: return lendMen(a, b, men);
                default: return growBy(a, b);
            }
        }

        int sendFrom(int p, Court court) {
            if (!has(p)) {
                return NO_SUCH;
            }
            court.ask(this, p, 0);
            if (court.barred) {
                return CANNOT;
            }
            int walkers = court.walkers();
            if (walkers == 0) {
                return 0;
            }
            if (groups >= MOST_GROUPS) {
                return NO_ROOM;
            }
            from[groups] = p;
            sizes[groups] = walkers;
            left[groups] = court.steps;
            groups++;
            leave(p, walkers);
            return walkers;
        }

        void leave(int p, int walkers) {
            if (has(p)) {
                counts[p] -= walkers;
                walked[p] = Math.min(MOST_WALKED, walked[p] + walkers);
            }
        }

        void arrive(int to, int people) {
            if (has(to)) {
                counts[to] = Math.min(MOST_COUNT, counts[to] + people);
            } else {
                sea = Math.min(MOST_WALKED, sea + people);
                cameToSea += people;
            }
        }

        /** The next day, whatever day it is: days to come go on behind the last. */
        int passDay() {
            int arrived = 0;
            int staying = 0;
            cameToSea = 0;
            for (int g = 0; g < groups && g < MOST_GROUPS; g++) {
                left[g]--;
                if (left[g] > 0) {
                    from[staying] = from[g];
                    sizes[staying] = sizes[g];
                    left[staying] = left[g];
                    staying++;
                } else {
                    arrived += sizes[g];
                    arrive(has(from[g]) ? below[from[g]] : NONE, sizes[g]);
                }
            }
            groups = staying;
            terms[DAY]++;
            return arrived;
        }

        int lendMen(int a, int b, int men) {
            if (men < 1 || men > 99) {
                return BAD_NUMBER;
            }
            if (!has(a) || !has(b)) {
                return NO_SUCH;
            }
            boolean beside = below[a] == b || below[b] == a;
            if (!beside || men > counts[a] || counts[b] + men > MOST_COUNT) {
                return CANNOT;
            }
            counts[a] -= men;
            counts[b] += men;
            return counts[a];
        }

        int growBy(int p, int by) {
            if (by < -99 || by > 99) {
                return BAD_NUMBER;
            }
            if (!has(p)) {
                return NO_SUCH;
            }
            int then = counts[p] + by;
            if (then < 0 || then > MOST_COUNT) {
                return CANNOT;
            }
            counts[p] = then;
            return then;
        }

        void takeFrom(Land other) {
            System.arraycopy(other.below, 0, below, 0, MOST_PARISHES);
            System.arraycopy(other.depths, 0, depths, 0, MOST_PARISHES);
            System.arraycopy(other.counts, 0, counts, 0, MOST_PARISHES);
            System.arraycopy(other.walked, 0, walked, 0, MOST_PARISHES);
            System.arraycopy(other.from, 0, from, 0, MOST_GROUPS);
            System.arraycopy(other.sizes, 0, sizes, 0, MOST_GROUPS);
            System.arraycopy(other.left, 0, left, 0, MOST_GROUPS);
            System.arraycopy(other.terms, 0, terms, 0, terms.length);
            System.arraycopy(other.heardOf, 0, heardOf, 0, MOST_HEARD);
            System.arraycopy(other.heardOver, 0, heardOver, 0, MOST_HEARD);
            // Laws never change once they are made, so that they can be shared.
            for (int i = 0; i < MOST_LAWS; i++) {
                laws[i] = other.laws[i];
            }
            parishes = other.parishes;
            groups = other.groups;
            sea = other.sea;
            heard = other.heard;
            lawsMade = other.lawsMade;
            forced = other.forced;
        }
    }

    /** What can be undone: rows of how all that moves was ahead of each act. */
    private static final class Past {
        private static final int ROW = 2 * MOST_PARISHES + 3 * MOST_GROUPS + 4;
        // One more than are kept, so that a noted act that is refused costs none.
        private static final int SLOTS = MOST_UNDONE + 1;

        private final int[] rows = new int[SLOTS * ROW];
        private int first;
        int kept;

        void clear() {
            kept = 0;
        }

        void note(int kind, Land land) {
            int at = slotAt(kept);
            System.arraycopy(land.counts, 0, rows, at, MOST_PARISHES);
            at += MOST_PARISHES;
            System.arraycopy(land.walked, 0, rows, at, MOST_PARISHES);
            at += MOST_PARISHES;
            System.arraycopy(land.from, 0, rows, at, MOST_GROUPS);
            at += MOST_GROUPS;
            System.arraycopy(land.sizes, 0, rows, at, MOST_GROUPS);
            at += MOST_GROUPS;
            System.arraycopy(land.left, 0, rows, at, MOST_GROUPS);
            at += MOST_GROUPS;
            rows[at] = land.groups;
            rows[at + 1] = land.sea;
            rows[at + 2] = land.terms[DAY];
            rows[at + 3] = kind;
        }

        void keep() {
            if (kept < MOST_UNDONE) {
                kept++;
            } else {
                first = (first + 1) % SLOTS;
            }
        }

        /** Undoes the latest act: its kind; NONE without. */
        int takeBack(Land land) {
            if (kept <= 0) {
                return NONE;
            }
            kept--;
            int at = slotAt(kept);
            System.arraycopy(rows, at, land.counts, 0, MOST_PARISHES);
            at += MOST_PARISHES;
            System.arraycopy(rows, at, land.walked, 0, MOST_PARISHES);
            at += MOST_PARISHES;
            System.arraycopy(rows, at, land.from, 0, MOST_GROUPS);
            at += MOST_GROUPS;
            System.arraycopy(rows, at, land.sizes, 0, MOST_GROUPS);
            at += MOST_GROUPS;
            System.arraycopy(rows, at, land.left, 0, MOST_GROUPS);
            at += MOST_GROUPS;
            land.groups = rows[at];
            land.sea = rows[at + 1];
            land.terms[DAY] = rows[at + 2];
            return rows[at + 3];
        }

        private int slotAt(int nth) {
            return (first + nth) % SLOTS * ROW;
        }
    }

    /** A text that was read: its clauses, and their sums and tests as code. */
    private static final class Text {
        static final int KIND = 0;
        static final int TIMES = 1;
        static final int FIRST = 2;
        static final int SECOND = 3;
        static final int TEST = 4;
        static final int FIELDS = 5;

        final int[] code;
        final int[] clauses;
        int used;
        int size;
        int oversAsked;

        Text(int codeRoom, int clauseRoom) {
            code = new int[Math.max(0, codeRoom)];
            clauses = new int[Math.max(0, clauseRoom) * FIELDS];
        }

        void clear() {
            used = 0;
            size = 0;
            oversAsked = 0;
        }

        void openClause() {
            int at = size * FIELDS;
            if (at >= 0 && at + FIELDS <= clauses.length) {
                clauses[at + KIND] = NONE;
                clauses[at + TIMES] = 1;
                clauses[at + FIRST] = NONE;
                clauses[at + SECOND] = NONE;
                clauses[at + TEST] = NONE;
                size++;
            }
        }

        /** Tells a field of the clause that was opened last. */
        void put(int field, int value) {
            int at = (size - 1) * FIELDS + field;
            if (at >= 0 && at < clauses.length) {
                clauses[at] = value;
            }
        }

        int part(int clause, int field) {
            int at = clause * FIELDS + field;
            return at >= 0 && at < clauses.length ? clauses[at] : NONE;
        }

        Text trimmed() {
            Text copy = new Text(used, size);
            System.arraycopy(code, 0, copy.code, 0, copy.code.length);
            System.arraycopy(clauses, 0, copy.clauses, 0, copy.clauses.length);
            copy.used = used;
            copy.size = size;
            copy.oversAsked = oversAsked;
            return copy;
        }
    }

    /** Works out sums and tests: an instruction's low four bits are what, the rest with what. */
    private static final class Machine {
        static final int STOP = 0;
        static final int NUMBER = 1;
        static final int WORD = 2;
        static final int PLUS = 3;
        static final int MINUS = 4;
        static final int TIMES = 5;
        static final int OVER = 6;
        static final int REST = 7;
        static final int LESS = 8;
        static final int MORE = 9;
        static final int SAME = 10;
        static final int NOT = 11;
        static final int OR = 12;
        static final int AND = 13;
        private static final long FARTHEST = 1000000000L;

        // Eight brackets, each with a sum, a product and a side begun, stay far below this.
        private final int[] stack = new int[64];
        boolean broken;

        /** What the code from a start on comes to: 1 without any, as a test that is not there is so. */
        int value(Text text, int start, int[] words) {
            broken = false;
            if (start < 0) {
                return 1;
            }
            int top = 0;
            for (int at = start; at < text.code.length; at++) {
                int what = text.code[at] & 15;
                int with = text.code[at] >> 4;
                if (what == STOP || broken) {
                    break;
                }
                if (what == NUMBER || what == WORD) {
                    if (top >= stack.length) {
                        broken = true;
                        break;
                    }
                    stack[top] = what == NUMBER ? with
                            : with >= 0 && with < words.length ? words[with] : 0;
                    top++;
                } else if (top < 1 || what < NOT && top < 2) {
                    broken = true;
                } else if (what == NOT) {
                    stack[top - 1] = 1 - stack[top - 1];
                } else if (what < NOT) {
                    stack[top - 2] = combined(what, stack[top - 2], stack[top - 1]);
                    top--;
                } else if ((stack[top - 1] != 0) == (what == OR)) {
                    // What stands behind can't matter: on only, never back.
                    at = Math.max(at, with - 1);
                } else {
                    top--;
                }
            }
            return broken || top < 1 ? 0 : stack[0];
        }

        private int combined(int what, long a, long b) {
            long c = 0;
            switch (what) {
                case PLUS: c = a + b; break;
                case MINUS: c = a - b; break;
                case TIMES: c = a * b; break;
                case LESS: return a < b ? 1 : 0;
                case MORE: return a > b ? 1 : 0;
                case SAME: return a == b ? 1 : 0;
                default:
                    if (b == 0) {
                        broken = true;
                    } else {
                        c = what == OVER ? a / b : a % b;
                    }
                    break;
            }
            if (c > FARTHEST || c < -FARTHEST) {
                broken = true;
            }
            return broken ? 0 : (int) c;
        }
    }

    /** Asks the law in force of a parish. */
    private static final class Court {
        static final int PARISH = 0;
        static final int COUNT = 1;
        static final int OVER = 2;
        static final int BELOW = 3;
        static final int DEPTH = 4;
        static final int WALKED = 5;
        static final int TODAY = 6;
        static final int TEMPER = 7;

        private final Machine machine = new Machine();
        private final int[] words = new int[8];
        int tens;
        int over;
        int stay;
        int steps;
        boolean barred;

        int walkers() {
            return over - stay;
        }

        /** Tells all five of a parish; a ten above 0 stands in place of the law's. */
        void ask(Land land, int p, int ten) {
            if (!land.has(p)) {
                return;
            }
            Text law = land.lawInForce();
            words[PARISH] = p;
            words[COUNT] = land.counts[p];
            words[OVER] = -1;
            words[BELOW] = land.below[p];
            words[DEPTH] = land.depths[p];
            words[WALKED] = land.walked[p];
            words[TODAY] = land.terms[DAY];
            words[TEMPER] = land.terms[MOOD];
            tens = bounded(ten > 0 ? ten : latestOf(law, TENS, land.terms[BY]), LEAST_TEN, MOST_TEN);
            over = land.counts[p] % tens;
            words[OVER] = over;
            stay = Math.min(over, bounded(latestOf(law, STAYS, 0), 0, MOST_OVER));
            steps = bounded(latestOf(law, STEPS, 1), 1, 9);
            barred = latestOf(law, BARS, 0) != 0;
        }

        /** What the last clause of a kind that holds tells ("bars" has no sum, and tells 1). */
        private int latestOf(Text law, int kind, int without) {
            if (law == null) {
                return without;
            }
            for (int c = law.size - 1; c >= 0; c--) {
                if (law.part(c, Text.KIND) == kind) {
                    int so = machine.value(law, law.part(c, Text.TEST), words);
                    if (!machine.broken && so != 0) {
                        int told = machine.value(law, law.part(c, Text.FIRST), words);
                        if (!machine.broken) {
                            return told;
                        }
                    }
                }
            }
            return without;
        }
    }

    /** Runs orders. */
    private static final class Runner {
        static final int TODAY = 0;
        static final int DONE = 1;
        static final int LATEST = 2;
        static final int SEA = 3;
        static final int WALKING = 4;
        static final int COUNT_OF = 5;
        static final int OVER_OF = COUNT_OF + MOST_PARISHES;

        private final Machine machine = new Machine();
        private final Court court = new Court();
        private final int[] words = new int[OVER_OF + MOST_PARISHES];
        private int latest;
        private int firstSum;
        private int secondSum;
        int done;

        /** Which clause could not be, what ran ahead of it being left as it is; NONE without. */
        int runAll(Text text, Land land, Past past) {
            done = 0;
            latest = NONE;
            for (int c = 0; c < text.size; c++) {
                int kind = text.part(c, Text.KIND);
                int times = Math.min(MOST_TIMES, text.part(c, Text.TIMES));
                for (int t = 0; t < times; t++) {
                    fillWords(text, land);
                    if (!isWanted(text, c)) {
                        continue;
                    }
                    if (!sumsAreWhole(text, c)) {
                        return c;
                    }
                    if (past != null) {
                        past.note(kind, land);
                    }
                    int answer = land.act(kind, firstSum, secondSum, 1, court);
                    if (answer < 0) {
                        return c;
                    }
                    if (past != null) {
                        past.keep();
                    }
                    latest = kind == RECKONING ? answer : latest;
                    done++;
                }
            }
            return NONE;
        }

        private boolean isWanted(Text text, int c) {
            int so = machine.value(text, text.part(c, Text.TEST), words);
            return !machine.broken && so != 0;
        }

        private boolean sumsAreWhole(Text text, int c) {
            firstSum = machine.value(text, text.part(c, Text.FIRST), words);
            if (machine.broken) {
                return false;
            }
            secondSum = machine.value(text, text.part(c, Text.SECOND), words);
            return !machine.broken;
        }

        private void fillWords(Text text, Land land) {
            words[TODAY] = land.terms[DAY];
            words[DONE] = done;
            words[LATEST] = latest;
            words[SEA] = land.sea;
            words[WALKING] = land.walking();
            for (int p = 0; p < MOST_PARISHES; p++) {
                words[COUNT_OF + p] = land.has(p) ? land.counts[p] : NONE;
                words[OVER_OF + p] = NONE;
                // Asking the law is dear, so only those are asked that the text names.
                if (land.has(p) && (text.oversAsked >> p & 1) != 0) {
                    court.ask(land, p, 0);
                    words[OVER_OF + p] = court.over;
                }
            }
        }
    }

    /** Reads texts of both languages. */
    private static final class Reader {
        private static final int MOST_PARTS = 50;
        private static final int MOST_BRACKETS = 8;
        private static final int MOST_NUMBER = 1000;
        // A token makes one instruction at most, a sum or a test one more to stop.
        private static final int CODE_ROOM = MOST_TAPE + 3 * MOST_CLAUSES;

        private static final int NO_TOKEN = 0;
        private static final int LETTERS = 1;
        private static final int DIGITS = 2;
        private static final int SIGN = 3;
        private static final int DEAD = 4;

        final int[] tape = new int[MOST_TAPE];
        final Text text = new Text(CODE_ROOM, MOST_CLAUSES);
        private int length;
        private int tokenStart;
        private int tokenEnd;
        private int token;
        private int parts;
        private int faultAt;
        private boolean ordering;

        /** Reads the tape's first bytes into the text: where its fault is; NONE without. */
        int read(int bytes, boolean asOrders) {
            length = Math.min(bytes, tape.length);
            ordering = asOrders;
            text.clear();
            parts = 0;
            faultAt = NONE;
            tokenEnd = 0;
            step();
            for (int c = 0; c <= MOST_CLAUSES; c++) {
                if (c == MOST_CLAUSES) {
                    fail();
                    break;
                }
                text.openClause();
                if (ordering) {
                    readOrder();
                } else {
                    readRule();
                }
                if (!isSign(';')) {
                    break;
                }
                step();
            }
            if (token != NO_TOKEN) {
                fail();
            }
            return faultAt;
        }

        private void readRule() {
            int kind = is("tens") ? TENS : is("stays") ? STAYS
                    : is("steps") ? STEPS : is("bars") ? BARS : NONE;
            if (kind == NONE) {
                fail();
                return;
            }
            text.put(Text.KIND, kind);
            step();
            if (kind != BARS) {
                readWholeSum(Text.FIRST);
            }
            readCondition();
        }

        private void readOrder() {
            int kind = is("reckon") ? RECKONING : is("pass") ? PASSING
                    : is("lend") ? LENDING : is("grow") ? GROWING : NONE;
            if (kind == NONE) {
                fail();
                return;
            }
            text.put(Text.KIND, kind);
            step();
            if (kind != PASSING) {
                readWholeSum(Text.FIRST);
            }
            if (kind == LENDING || kind == GROWING) {
                if (!is(kind == LENDING ? "to" : "by")) {
                    fail();
                    return;
                }
                step();
                readWholeSum(Text.SECOND);
            }
            readTimes();
            readCondition();
        }

        private void readTimes() {
            if (!is("times")) {
                return;
            }
            step();
            int times = numberHere();
            if (times < 1 || times > MOST_TIMES) {
                fail();
                return;
            }
            text.put(Text.TIMES, times);
            step();
        }

        private void readCondition() {
            if (is("if")) {
                step();
                text.put(Text.TEST, text.used);
                readTest(0);
                emit(Machine.STOP, 0);
            }
        }

        private void readWholeSum(int field) {
            text.put(field, text.used);
            readSum(0);
            emit(Machine.STOP, 0);
        }

        // From here to readPart the methods call one another, once around for each
        // bracket; "open" is how many stand open, and enter() refuses the ninth.

        private void readTest(int open) {
            readBoth(open);
            for (int i = 0; i < MOST_TAPE && is("or"); i++) {
                int skip = emit(Machine.OR, 0);
                step();
                readBoth(open);
                aim(skip);
            }
        }

        private void readBoth(int open) {
            readPlain(open);
            for (int i = 0; i < MOST_TAPE && is("and"); i++) {
                int skip = emit(Machine.AND, 0);
                step();
                readPlain(open);
                aim(skip);
            }
        }

        private void readPlain(int open) {
            boolean turned = false;
            for (int i = 0; i < MOST_TAPE && is("not"); i++) {
                turned = !turned;
                step();
            }
            if (isSign('(')) {
                if (enter(open)) {
                    readTest(open + 1);
                    close(')');
                }
            } else {
                readSum(open);
                int what = isSign('<') ? Machine.LESS : isSign('>') ? Machine.MORE
                        : isSign('=') ? Machine.SAME : NONE;
                if (what == NONE) {
                    fail();
                    return;
                }
                step();
                readSum(open);
                emit(what, 0);
            }
            if (turned) {
                emit(Machine.NOT, 0);
            }
        }

        private void readSum(int open) {
            readTerm(open);
            for (int i = 0; i < MOST_TAPE && (isSign('+') || isSign('-')); i++) {
                int what = isSign('+') ? Machine.PLUS : Machine.MINUS;
                step();
                readTerm(open);
                emit(what, 0);
            }
        }

        private void readTerm(int open) {
            readPart(open);
            for (int i = 0; i < MOST_TAPE && (isSign('*') || isSign('/') || isSign('%')); i++) {
                int what = isSign('*') ? Machine.TIMES : isSign('/') ? Machine.OVER : Machine.REST;
                step();
                readPart(open);
                emit(what, 0);
            }
        }

        private void readPart(int open) {
            if (isSign('[')) {
                if (enter(open)) {
                    readSum(open + 1);
                    close(']');
                }
                return;
            }
            int number = numberHere();
            int word = ordering ? orderWord() : ruleWord();
            boolean isPart = word != NONE || number != NONE && number <= MOST_NUMBER;
            if (!isPart || parts >= MOST_PARTS) {
                fail();
                return;
            }
            parts++;
            step();
            if (word == NONE) {
                emit(Machine.NUMBER, number);
            } else if (ordering && word >= Runner.COUNT_OF) {
                readWhose(word);
            } else {
                emit(Machine.WORD, word);
            }
        }

        /** The parish of a "count", an "over". */
        private void readWhose(int word) {
            int whose = numberHere();
            if (whose < 0 || whose >= MOST_PARISHES) {
                fail();
                return;
            }
            if (word == Runner.OVER_OF) {
                text.oversAsked |= 1 << whose;
            }
            step();
            emit(Machine.WORD, word + whose);
        }

        private int ruleWord() {
            return is("parish") ? Court.PARISH : is("count") ? Court.COUNT
                    : is("over") ? Court.OVER : is("below") ? Court.BELOW
                    : is("depth") ? Court.DEPTH : is("walked") ? Court.WALKED
                    : is("day") ? Court.TODAY : is("mood") ? Court.TEMPER : NONE;
        }

        private int orderWord() {
            return is("day") ? Runner.TODAY : is("done") ? Runner.DONE
                    : is("latest") ? Runner.LATEST : is("sea") ? Runner.SEA
                    : is("walking") ? Runner.WALKING : is("count") ? Runner.COUNT_OF
                    : is("over") ? Runner.OVER_OF : NONE;
        }

        private boolean enter(int open) {
            if (open >= MOST_BRACKETS) {
                fail();
                return false;
            }
            step();
            return true;
        }

        private void close(int sign) {
            if (isSign(sign)) {
                step();
            } else {
                fail();
            }
        }

        /** The first fault stays; the dead token fits nothing, so that all that is begun ends. */
        private void fail() {
            if (faultAt == NONE) {
                faultAt = tokenStart;
            }
            token = DEAD;
        }

        private void step() {
            if (token == DEAD && faultAt != NONE) {
                return;
            }
            int at = tokenEnd;
            while (at < length && tape[at] == ' ') {
                at++;
            }
            tokenStart = at;
            token = at < length ? kindOf(tape[at]) : NO_TOKEN;
            if (at < length) {
                at++;
            }
            while (at < length && token != SIGN && kindOf(tape[at]) == token) {
                at++;
            }
            tokenEnd = at;
        }

        private static int kindOf(int sign) {
            if (sign >= 'a' && sign <= 'z') {
                return LETTERS;
            }
            return sign >= '0' && sign <= '9' ? DIGITS : SIGN;
        }

        private boolean is(String word) {
            if (token != LETTERS || tokenEnd - tokenStart != word.length()) {
                return false;
            }
            for (int i = 0; i < word.length(); i++) {
                if (tape[tokenStart + i] != word.charAt(i)) {
                    return false;
                }
            }
            return true;
        }

        private boolean isSign(int sign) {
            return token == SIGN && tape[tokenStart] == sign;
        }

        /** The number that stands here, those beyond all limits alike; NONE without. */
        private int numberHere() {
            if (token != DIGITS) {
                return NONE;
            }
            int number = 0;
            for (int at = tokenStart; at < tokenEnd; at++) {
                number = Math.min(MOST_NUMBER + 1, number * 10 + tape[at] - '0');
            }
            return number;
        }

        private int emit(int what, int with) {
            int at = text.used;
            if (at < text.code.length) {
                text.code[at] = with << 4 | what;
                text.used++;
            }
            return at;
        }

        /** Lets what was emitted at a place skip to here. */
        private void aim(int skip) {
            if (skip >= 0 && skip < text.code.length) {
                text.code[skip] = text.used << 4 | text.code[skip] & 15;
            }
        }
    }

    /** What is worked out on paper: nothing of the land that is asked changes. */
    private static final class Paper {
        private static final long WHOLE = 1000000000000L;

        private final Court court = new Court();
        final Land sheet = new Land();
        // What each parish had over, and how many walked from it, at once.
        private final int[] overs = new int[MOST_PARISHES];
        final int[] walkers = new int[MOST_PARISHES];
        private final int[] spare = new int[MOST_PARISHES];
        private final int[] grid = new int[MOST_PARISHES * MOST_PARISHES];
        private final long[] chances = new long[MOST_TEN];
        final int[] lentDown = new int[MOST_PARISHES];
        final int[] hiddenAt = new int[MOST_PARISHES];
        int hiddenOnes;
        int lentTogether;
        int fewestWalk;
        int fewestBits;
        int bestTen;
        int bestToSea;
        int lookAt;
        int lookLeft;
        int flowFirst;
        int flowToSea;
        int flowGroups;

        int stepsToSea(Land land, int parish) {
            int together = 0;
            int p = parish;
            for (int i = 0; i < MOST_PARISHES && land.has(p); i++) {
                court.ask(land, p, 0);
                together += court.steps;
                p = land.below[p];
            }
            return together;
        }

        /** How many come to the sea, one parish's count being changed, a ten told (0: none). */
        int atOnce(Land land, int changed, int by, int ten) {
            sheet.takeFrom(land);
            if (sheet.has(changed)) {
                sheet.counts[changed] += by;
            }
            sheet.cameToSea = 0;
            for (int p = sheet.parishes - 1; p >= 0; p--) {
                court.ask(sheet, p, ten);
                // Whoever comes to a parish comes ahead of its turn, as what lies
                // above has a higher number: a barred one's end is here, too.
                overs[p] = court.over;
                walkers[p] = court.barred ? 0 : court.walkers();
                sheet.leave(p, walkers[p]);
                sheet.arrive(sheet.below[p], walkers[p]);
            }
            return sheet.cameToSea;
        }

        void findFewest(Land land) {
            int inland = 0;
            for (int p = 0; p < land.parishes; p++) {
                inland |= land.below[p] == NONE ? 0 : 1 << p;
                spare[p] = NONE;
            }
            sheet.takeFrom(land);
            fewestWalk = walkBySet(land, 0);
            fewestBits = 0;
            for (int set = 1; set <= inland; set++) {
                if ((set & ~inland) == 0) {
                    int together = walkBySet(land, set);
                    if (together < fewestWalk) {
                        fewestWalk = together;
                        fewestBits = set;
                    }
                }
            }
        }

        /**
         * How many walk together, those of a set going ahead. A parish is asked
         * by what it has as its turn comes, so that who comes later does not
         * matter; spare is with how many each was asked last, as that repeats.
         */
        private int walkBySet(Land land, int set) {
            System.arraycopy(land.counts, 0, sheet.counts, 0, MOST_PARISHES);
            int together = 0;
            for (int p = sheet.parishes - 1; p >= 0; p--) {
                if (spare[p] != sheet.counts[p]) {
                    spare[p] = sheet.counts[p];
                    court.ask(sheet, p, 0);
                    walkers[p] = court.barred ? 0 : court.walkers();
                }
                together += walkers[p];
                if ((set >> p & 1) != 0) {
                    sheet.arrive(sheet.below[p], walkers[p]);
                }
            }
            return together;
        }

        /** Whether nobody is over by some lending. */
        boolean findLent(Land land) {
            int by = Math.max(LEAST_TEN, land.terms[BY]);
            System.arraycopy(land.counts, 0, spare, 0, MOST_PARISHES);
            lentTogether = 0;
            for (int p = land.parishes - 1; p >= 0; p--) {
                int rest = spare[p] % by;
                int below = land.below[p];
                if (land.has(below)) {
                    spare[below] += spare[p];
                } else if (rest != 0) {
                    return false;
                }
                lentDown[p] = rest <= by - rest ? rest : rest - by;
                lentTogether += Math.abs(lentDown[p]);
            }
            return true;
        }

        long partsOver(Land land, int parish, int n, int over) {
            court.ask(land, parish, 0);
            int tens = Math.min(court.tens, chances.length);
            for (int i = 0; i < chances.length; i++) {
                chances[i] = i == court.over ? WHOLE : 0;
            }
            int rate = land.terms[RATE];
            for (int day = 0; day < n; day++) {
                long before = chances[tens - 1];
                for (int i = 0; i < tens; i++) {
                    long here = chances[i];
                    chances[i] = (here * (10 - rate) + before * rate) / 10;
                    before = here;
                }
            }
            return over < chances.length ? chances[over] : 0;
        }

        void findBest(Land land) {
            bestTen = LEAST_TEN;
            bestToSea = atOnce(land, NONE, 0, LEAST_TEN);
            for (int ten = LEAST_TEN + 1; ten <= MOST_TEN; ten++) {
                int toSea = atOnce(land, NONE, 0, ten);
                if (toSea < bestToSea) {
                    bestTen = ten;
                    bestToSea = toSea;
                }
            }
        }

        /** Those hidden, and in the grid's rows what each would have had over. */
        void findHidden(Land land) {
            hiddenOnes = 0;
            for (int p = 0; p < land.parishes && p < MOST_PARISHES; p++) {
                if (land.counts[p] > 0) {
                    atOnce(land, p, -1, 0);
                    if (isAsHeard(land)) {
                        System.arraycopy(overs, 0, grid, hiddenOnes * MOST_PARISHES, MOST_PARISHES);
                        hiddenAt[hiddenOnes] = p;
                        hiddenOnes++;
                    }
                }
            }
        }

        private boolean isAsHeard(Land land) {
            for (int h = 0; h < land.heard && h < MOST_HEARD; h++) {
                int whose = land.heardOf[h];
                if (!land.has(whose) || overs[whose] != land.heardOver[h]) {
                    return false;
                }
            }
            return true;
        }

        void findLook(Land land) {
            findHidden(land);
            lookAt = NONE;
            lookLeft = NONE;
            if (hiddenOnes == 0) {
                return;
            }
            for (int p = 0; p < land.parishes; p++) {
                int most = mostAlike(p);
                if (lookAt == NONE || most < lookLeft) {
                    lookAt = p;
                    lookLeft = most;
                }
            }
        }

        private int mostAlike(int p) {
            int most = 0;
            for (int i = 0; i < hiddenOnes; i++) {
                int alike = 0;
                for (int j = 0; j < hiddenOnes; j++) {
                    if (grid[i * MOST_PARISHES + p] == grid[j * MOST_PARISHES + p]) {
                        alike++;
                    }
                }
                most = Math.max(most, alike);
            }
            return most;
        }

        int movedBits(Land land, int parish) {
            atOnce(land, NONE, 0, 0);
            System.arraycopy(walkers, 0, spare, 0, MOST_PARISHES);
            atOnce(land, parish, 1, 0);
            int bits = 0;
            for (int p = 0; p < land.parishes && p < MOST_PARISHES; p++) {
                bits |= walkers[p] != spare[p] ? 1 << p : 0;
            }
            return bits;
        }

        void findFlow(Land land, int n) {
            sheet.takeFrom(land);
            flowFirst = 0;
            flowToSea = 0;
            flowGroups = 0;
            for (int day = 1; day <= n; day++) {
                for (int p = 0; p < sheet.parishes; p++) {
                    sheet.sendFrom(p, court);
                }
                sheet.passDay();
                if (flowFirst == 0 && sheet.cameToSea > 0) {
                    flowFirst = day;
                }
                flowToSea += sheet.cameToSea;
                flowGroups = Math.max(flowGroups, sheet.groups);
            }
        }

        /** Years by draws on a page of their own: how many came to the sea. */
        int drawDays(Land page, int seed, int n) {
            int toSea = 0;
            int s = seed;
            for (int day = 0; day < n && page.terms[DAY] < LAST_DAY && page.parishes > 0; day++) {
                s = drawnNext(s);
                int p = s % page.parishes;
                s = drawnNext(s);
                int what = s % 3;
                if (what == 0) {
                    page.growBy(p, 1);
                } else if (what == 1) {
                    page.growBy(p, -1);
                } else {
                    page.sendFrom(p, court);
                }
                page.passDay();
                toSea += page.cameToSea;
            }
            return toSea;
        }

        private static int drawnNext(int s) {
            return (int) ((s * 1103L + 12345L) % 1000003L);
        }
    }
}
