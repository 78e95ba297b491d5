import java.util.Random;

/** Long random runs of calls, each answer held against the model's. */
public final class ModelTest {
    private final Random random;
    private Used x;
    private Model m;
    private StringBuilder story;
    private boolean failed;

    private ModelTest(long seed) {
        random = new Random(seed);
    }

    public static void main(String[] args) {
        int runs = args.length > 0 ? Integer.parseInt(args[0]) : 400;
        for (int run = 0; run < runs && Check.wrong() == 0; run++) {
            new ModelTest(run).run(run);
        }
        Check.end("ModelTest");
    }

    private void run(int run) {
        x = new Used();
        m = new Model();
        story = new StringBuilder();
        if (random.nextInt(8) != 0) {
            start();
        }
        int calls = 0;
        while (calls < 400 && !failed) {
            calls += turn();
        }
        if (failed) {
            System.out.println("run " + run + ":\n" + story);
        }
    }

    private void due(String call, long got, long want) {
        story.append(call).append(" -> ").append(got).append('\n');
        if (got != want) {
            failed = true;
        }
        Check.due(call, got, want);
    }

    private int r(int n) {
        return random.nextInt(n);
    }

    private int parishOr() {
        int n = m.now.parishes.size();
        return r(12) == 0 ? r(14) - 2 : n == 0 ? 0 : r(n);
    }

    private int odd(int usual) {
        int[] odds = {-2, -1, 0, 1, 2, 3, 99, 100, 999, 1000, Integer.MAX_VALUE, Integer.MIN_VALUE, usual + 1};
        return r(12) == 0 ? odds[r(odds.length)] : usual;
    }

    private void start() {
        int n = 1 + r(10);
        int most = r(3) == 0 ? 1000 : 60;
        for (int i = 0; i < n; i++) {
            parish(i == 0 ? -1 : r(6) == 0 ? -1 : r(i), r(most));
        }
        if (r(3) == 0) {
            slowWays();
        }
        if (r(4) == 0) {
            int by = 2 + r(2);
            due("terms(1, " + by + ")", x.terms(1, by), m.terms(1, by));
        }
    }

    /** A law by which so many walk so long that there is no room for more. */
    private void slowWays() {
        tape("tens 13 + parish;steps 9;stays over - 1");
        due("law()", x.law(), m.law());
        due("force(0)", x.force(0), m.force(0));
        for (int i = 0; i < 24; i++) {
            int p = parishOr();
            due("reckon(" + p + ")", x.reckon(p), m.reckon(p));
        }
    }

    private void parish(int below, int count) {
        due("parish(" + below + ", " + count + ")", x.parish(below, count), m.parish(below, count));
    }

    private void tape(String text) {
        int[] all = Check.bytes(text);
        for (int at = 0; at < all.length; at += 20) {
            int a = Check.four(all, at);
            int b = Check.four(all, at + 4);
            int c = Check.four(all, at + 8);
            int d = Check.four(all, at + 12);
            int e = Check.four(all, at + 16);
            due("feed", x.feed(a, b, c, d, e), m.feed(a, b, c, d, e));
        }
        due("end", x.end(all.length), m.end(all.length));
        story.append("tape: ").append(text).append('\n');
    }

    private int turn() {
        switch (r(34)) {
            case 0: return rows();
            case 1: case 2: case 3: return laws();
            case 4: case 5: case 6: case 7: return ordersRun();
            case 8: {
                int law = r(10) == 0 ? odd(0) : r(7) - 1;
                due("force(" + law + ")", x.force(law), m.force(law));
                break;
            }
            case 9: case 10: case 11: case 12: {
                int p = parishOr();
                due("reckon(" + p + ")", x.reckon(p), m.reckon(p));
                break;
            }
            case 13: case 14:
                due("pass()", x.pass(), m.pass());
                break;
            case 15: {
                int a = parishOr();
                int b = r(3) == 0 || !m.now.has(a) ? parishOr() : m.now.below(a);
                boolean turned = r(2) == 0;
                int men = odd(1 + r(12));
                int from = turned ? b : a;
                int to = turned ? a : b;
                due("lend(" + from + ", " + to + ", " + men + ")", x.lend(from, to, men), m.lend(from, to, men));
                break;
            }
            case 16: case 17: {
                int p = parishOr();
                int by = odd(r(60) - 20);
                due("grow(" + p + ", " + by + ")", x.grow(p, by), m.grow(p, by));
                break;
            }
            case 18: case 19:
                due("undo()", x.undo(), m.undo());
                break;
            case 20: {
                int what = r(6) == 0 ? odd(0) : r(4);
                int[] usual = {r(4) == 0 ? 990 + r(10) : r(1000), 2 + r(20), r(11), r(10)};
                int value = odd(usual[Math.max(0, Math.min(3, what))]);
                due("terms(" + what + ", " + value + ")", x.terms(what, value), m.terms(what, value));
                break;
            }
            case 21: parish(r(12) - 1, odd(r(200))); break;
            case 22: {
                int p = parishOr();
                int over = odd(m.now.has(p) && r(2) == 0 ? m.atOnce(m.now, p, 0, 0).over[p] : r(12));
                due("hear(" + p + ", " + over + ")", x.hear(p, over), m.hear(p, over));
                break;
            }
            case 23:
                if (r(3) == 0) {
                    due("forget()", x.forget(), m.forget());
                }
                break;
            case 24: {
                int k = r(9) == 0 ? odd(0) : r(2);
                due("image(" + k + ")", x.image(k), m.image(k));
                break;
            }
            case 25:
                if (r(3) == 0) {
                    int k = r(9) == 0 ? odd(0) : r(2);
                    due("back(" + k + ")", x.back(k), m.back(k));
                }
                break;
            case 26: {
                int seed = r(8) == 0 ? odd(1000000) : r(1000001);
                int n = odd(1 + r(100));
                due("years(" + seed + ", " + n + ")", x.years(seed, n), m.years(seed, n));
                break;
            }
            default: return ask();
        }
        return 1 + looks();
    }

    /** After a change, some of what can be seen of it. */
    private int looks() {
        due("status()", x.status(), m.status);
        for (int i = 0; i < 3; i++) {
            int what = r(20) - 1;
            due("count(" + what + ")", x.count(what), m.count(what));
        }
        int p = parishOr();
        int what = r(12) - 1;
        due("of(" + p + ", " + what + ")", x.of(p, what), m.of(p, what));
        int k = r(18) - 1;
        int part = r(5) - 1;
        due("group(" + k + ", " + part + ")", x.group(k, part), m.group(k, part));
        due("fault()", x.fault(), m.fault);
        due("stopped()", x.stopped(), m.stopped);
        due("stones()", x.stones(), m.stones);
        return 9;
    }

    private int rows() {
        if (r(2) == 0) {
            return 0;
        }
        StringBuilder all = new StringBuilder();
        int n = r(10);
        for (int i = 0; i < n; i++) {
            all.append((char) (r(12))).append((char) r(r(5) == 0 ? 256 : 100)).append((char) r(11));
        }
        all.setLength(Math.max(0, all.length() - (r(3) == 0 ? 1 : 0)));
        tape(all.toString());
        due("row()", x.row(), m.row());
        return 4 + looks();
    }

    private int laws() {
        String text = new Writer(random, false).text();
        tape(text);
        due("law()", x.law(), m.law());
        int law = m.now.laws.size() - 1;
        if (r(2) == 0) {
            due("force(" + law + ")", x.force(law), m.force(law));
        }
        return 10 + looks();
    }

    private int ordersRun() {
        String text = new Writer(random, true).text();
        tape(text);
        due("orders()", x.orders(), m.orders());
        return 10 + looks();
    }

    private int ask() {
        int p = parishOr();
        int what = r(4) - (r(6) == 0 ? 1 : 0);
        switch (r(12)) {
            case 0: due("once(" + p + ")", x.once(p), m.once(p)); break;
            case 1: due("once(-1)", x.once(-1), m.once(-1)); break;
            case 2: due("fewest(" + what + ")", x.fewest(what), m.fewest(what)); break;
            case 3: {
                int w = r(14) - 1;
                due("lent(" + w + ")", x.lent(w), m.lent(w));
                break;
            }
            case 4: {
                int n = odd(r(61));
                int over = odd(r(20));
                due("odds(" + p + ", " + n + ", " + over + ")", x.odds(p, n, over), m.odds(p, n, over));
                break;
            }
            case 5: due("best(" + what + ")", x.best(what), m.best(what)); break;
            case 6: due("hidden(-1)", x.hidden(-1), m.hidden(-1)); break;
            case 7: {
                int i = r(13) - 2;
                due("hidden(" + i + ")", x.hidden(i), m.hidden(i));
                break;
            }
            case 8: due("look(" + what + ")", x.look(what), m.look(what)); break;
            case 9: due("moved(" + p + ")", x.moved(p), m.moved(p)); break;
            case 10: {
                int n = odd(1 + r(60));
                due("flow(" + n + ", " + what + ")", x.flow(n, what), m.flow(n, what));
                break;
            }
            default: {
                due("drawn(" + p + ", " + what + ")", x.drawn(p, what), m.drawn(p, what));
                break;
            }
        }
        return 1;
    }

    /** Writes texts by the grammar, now and then with something wrong in them. */
    private static final class Writer {
        private final Random random;
        private final boolean orders;
        private final StringBuilder out = new StringBuilder();

        Writer(Random random, boolean orders) {
            this.random = random;
            this.orders = orders;
        }

        private int r(int n) {
            return random.nextInt(n);
        }

        private void put(String token) {
            int last = out.length() - 1;
            boolean glue = last >= 0 && Character.isLetter(out.charAt(last)) == Character.isLetter(token.charAt(0))
                    && Character.isLetterOrDigit(token.charAt(0));
            boolean glued = last >= 0 && Character.isDigit(out.charAt(last)) == Character.isDigit(token.charAt(0));
            if (glue && glued || r(3) == 0) {
                out.append(' ');
            }
            out.append(token);
        }

        String text() {
            int clauses = 1 + r(r(15) == 0 ? 13 : 4);
            for (int c = 0; c < clauses; c++) {
                if (c > 0) {
                    put(";");
                }
                if (orders) {
                    order();
                } else {
                    rule();
                }
            }
            if (r(6) == 0 && out.length() > 0) {
                spoil();
            }
            if (out.length() > 400) {
                out.setLength(400);
            }
            return out.toString();
        }

        private void spoil() {
            int at = r(out.length());
            switch (r(4)) {
                case 0: out.deleteCharAt(at); break;
                case 1: out.setCharAt(at, (char) r(256)); break;
                case 2: out.insert(at, "(["); break;
                default: out.setLength(at); break;
            }
        }

        private void rule() {
            String[] kinds = {"tens", "stays", "steps", "bars"};
            String kind = kinds[r(4)];
            put(kind);
            if (!kind.equals("bars")) {
                sum(0);
            }
            if (kind.equals("bars") ? r(8) != 0 : r(2) == 0) {
                put("if");
                test(0);
            }
        }

        private void order() {
            switch (r(4)) {
                case 0: put("reckon"); where(); break;
                case 1: put("pass"); break;
                case 2: put("lend"); where(); put("to"); where(); break;
                default: put("grow"); where(); put("by"); sum(1); break;
            }
            if (r(3) == 0) {
                put("times");
                put(String.valueOf(r(9) == 0 ? r(23) : 1 + r(6)));
            }
            if (r(3) == 0) {
                put("if");
                test(0);
            }
        }

        private void where() {
            if (r(3) != 0) {
                put(String.valueOf(r(4)));
            } else {
                sum(1);
            }
        }

        private void test(int deep) {
            both(deep);
            while (r(5) == 0) {
                put("or");
                both(deep);
            }
        }

        private void both(int deep) {
            plain(deep);
            while (r(5) == 0) {
                put("and");
                plain(deep);
            }
        }

        private void plain(int deep) {
            while (r(6) == 0) {
                put("not");
            }
            if (deep < 12 && r(deep > 2 ? 2 : 6) == 0) {
                put("(");
                test(deep + 1);
                put(")");
            } else {
                sum(deep);
                put(new String[] {"<", ">", "="}[r(3)]);
                sum(deep);
            }
        }

        private void sum(int deep) {
            term(deep);
            while (r(4) == 0) {
                put(r(2) == 0 ? "+" : "-");
                term(deep);
            }
        }

        private void term(int deep) {
            part(deep);
            while (r(5) == 0) {
                put(new String[] {"*", "/", "%"}[r(3)]);
                part(deep);
            }
        }

        private void part(int deep) {
            if (deep < 12 && r(deep > 2 ? 3 : 9) == 0) {
                put("[");
                sum(deep + 1);
                put("]");
                return;
            }
            if (r(2) == 0) {
                put(String.valueOf(r(20) == 0 ? 995 + r(8) : r(4) == 0 ? r(100) : r(12)));
                return;
            }
            String[] words = orders ? new String[] {"day", "done", "latest", "sea", "walking", "count", "over"}
                    : new String[] {"parish", "count", "over", "below", "depth", "walked", "day", "mood"};
            String word = words[r(words.length)];
            put(word);
            if (orders && (word.equals("count") || word.equals("over"))) {
                put(String.valueOf(r(25) == 0 ? r(12) : r(4)));
            }
        }
    }
}
