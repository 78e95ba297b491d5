import java.util.ArrayDeque;
import java.util.ArrayList;
import java.util.Deque;
import java.util.List;

/**
 * The document once more, written as literally as can be and without regard
 * to cost or to LANGUAGE.md, to hold the class against.
 */
final class Model {
    static final int NONE = -1;
    static final int NOTHING = -1000;

    static final class Broken extends Exception {
        private static final long serialVersionUID = 1L;
    }

    static final class Fault extends Exception {
        private static final long serialVersionUID = 1L;
        final int place;

        Fault(int place) {
            this.place = place;
        }
    }

    interface Env {
        long word(String name, int whose);
    }

    interface Sum {
        long get(Env env) throws Broken;
    }

    interface Test {
        boolean get(Env env) throws Broken;
    }

    static final class Clause {
        String kind;
        Sum a;
        Sum b;
        int times = 1;
        Test test;
    }

    static final class Group {
        int from;
        int size;
        int left;

        Group(int from, int size, int left) {
            this.from = from;
            this.size = size;
            this.left = left;
        }
    }

    static final class World {
        List<int[]> parishes = new ArrayList<>(); // below, count, walked
        List<Group> groups = new ArrayList<>();
        int sea;
        List<int[]> heard = new ArrayList<>();
        int[] terms = {0, 10, 2, 0};
        List<List<Clause>> laws = new ArrayList<>();
        int forced = NONE;

        World copy() {
            World w = new World();
            for (int[] p : parishes) {
                w.parishes.add(p.clone());
            }
            for (Group g : groups) {
                w.groups.add(new Group(g.from, g.size, g.left));
            }
            w.sea = sea;
            for (int[] h : heard) {
                w.heard.add(h.clone());
            }
            w.terms = terms.clone();
            w.laws.addAll(laws);
            w.forced = forced;
            return w;
        }

        boolean has(int p) {
            return p >= 0 && p < parishes.size();
        }

        int below(int p) {
            return parishes.get(p)[0];
        }

        int depth(int p) {
            return below(p) < 0 ? 0 : 1 + depth(below(p));
        }

        int walking() {
            int n = 0;
            for (Group g : groups) {
                n += g.size;
            }
            return n;
        }

        List<Clause> law() {
            return forced < 0 ? new ArrayList<>() : laws.get(forced);
        }

        /** The last clause of a kind that holds; null without. */
        Long told(String kind, int p, int over) {
            Long last = null;
            for (Clause c : law()) {
                if (!c.kind.equals(kind)) {
                    continue;
                }
                Env env = (name, whose) -> {
                    switch (name) {
                        case "parish": return p;
                        case "count": return parishes.get(p)[1];
                        case "over": return over;
                        case "below": return below(p);
                        case "depth": return depth(p);
                        case "walked": return parishes.get(p)[2];
                        case "day": return terms[0];
                        default: return terms[3];
                    }
                };
                try {
                    if (c.test != null && !c.test.get(env)) {
                        continue;
                    }
                    last = c.a == null ? 1L : c.a.get(env);
                } catch (Broken b) {
                    continue;
                }
            }
            return last;
        }

        int ten = 0;

        int tens(int p) {
            if (ten != 0) {
                return ten;
            }
            Long t = told("tens", p, -1);
            return t == null ? terms[1] : (int) Math.max(2, Math.min(99, t));
        }

        int over(int p) {
            return parishes.get(p)[1] % tens(p);
        }

        int walkers(int p) {
            Long s = told("stays", p, over(p));
            int stay = s == null ? 0 : (int) Math.max(0, Math.min(98, s));
            return over(p) - Math.min(stay, over(p));
        }

        int steps(int p) {
            Long s = told("steps", p, over(p));
            return s == null ? 1 : (int) Math.max(1, Math.min(9, s));
        }

        boolean barred(int p) {
            return told("bars", p, over(p)) != null;
        }

        int reckon(int p) {
            if (!has(p)) {
                return -2;
            }
            if (barred(p)) {
                return -3;
            }
            int w = walkers(p);
            if (w > 0 && groups.size() == 16) {
                return -5;
            }
            if (w > 0) {
                groups.add(new Group(p, w, steps(p)));
                parishes.get(p)[1] -= w;
                parishes.get(p)[2] = Math.min(99999, parishes.get(p)[2] + w);
            }
            return w;
        }

        int came;

        int passes() {
            int n = 0;
            came = 0;
            List<Group> on = new ArrayList<>();
            for (Group g : groups) {
                g.left--;
                if (g.left > 0) {
                    on.add(g);
                    continue;
                }
                n += g.size;
                if (below(g.from) < 0) {
                    sea = Math.min(99999, sea + g.size);
                    came += g.size;
                } else {
                    int[] to = parishes.get(below(g.from));
                    to[1] = Math.min(999, to[1] + g.size);
                }
            }
            groups = on;
            terms[0]++;
            return n;
        }

        int pass() {
            return terms[0] == 999 ? -3 : passes();
        }

        int lend(int a, int b, int men) {
            if (men < 1 || men > 99) {
                return -1;
            }
            if (!has(a) || !has(b)) {
                return -2;
            }
            if (below(a) != b && below(b) != a) {
                return -3;
            }
            if (parishes.get(a)[1] < men || parishes.get(b)[1] + men > 999) {
                return -3;
            }
            parishes.get(a)[1] -= men;
            parishes.get(b)[1] += men;
            return parishes.get(a)[1];
        }

        int grow(int p, int by) {
            if (by < -99 || by > 99) {
                return -1;
            }
            if (!has(p)) {
                return -2;
            }
            int c = parishes.get(p)[1] + by;
            if (c < 0 || c > 999) {
                return -3;
            }
            parishes.get(p)[1] = c;
            return c;
        }

        /** On paper: a parish is reckoned, its walkers arriving at once. */
        int walkAtOnce(int p) {
            if (barred(p)) {
                return 0;
            }
            int w = walkers(p);
            int[] here = parishes.get(p);
            here[1] -= w;
            here[2] = Math.min(99999, here[2] + w);
            if (here[0] >= 0) {
                int[] to = parishes.get(here[0]);
                to[1] = Math.min(999, to[1] + w);
            }
            return w;
        }
    }

    static final class AtOnce {
        int toSea;
        int[] walk;
        int[] over;
    }

    World now = new World();
    World[] images = new World[2];
    World yearsEnd = null;
    Deque<Object[]> past = new ArrayDeque<>();
    List<Integer> tape = new ArrayList<>();
    int fault = NONE;
    int stopped = NONE;
    int stones = 0;
    int status = 0;
    int[] refused = new int[7];

    private int refuse(int by) {
        status = by;
        refused[-by]++;
        return by;
    }

    private int well(int answer) {
        status = 0;
        return answer;
    }

    private int settle(int answer) {
        return answer < 0 ? refuse(answer) : well(answer);
    }

    int parish(int below, int count) {
        if (below < -1 || below >= now.parishes.size() || count < 0 || count > 999) {
            return refuse(-1);
        }
        if (now.parishes.size() == 10) {
            return refuse(-5);
        }
        now.parishes.add(new int[] {below, count, 0});
        past.clear();
        return well(now.parishes.size() - 1);
    }

    int of(int p, int what) {
        if (!now.has(p)) {
            return NOTHING;
        }
        switch (what) {
            case 0: return now.below(p);
            case 1: return now.parishes.get(p)[1];
            case 2: return now.depth(p);
            case 3: return now.parishes.get(p)[2];
            case 4: return now.tens(p);
            case 5: return now.over(p);
            case 6: return now.walkers(p);
            case 7: return now.steps(p);
            case 8: return now.barred(p) ? 1 : 0;
            case 9:
                int sum = 0;
                for (int q = p; q >= 0; q = now.below(q)) {
                    sum += now.steps(q);
                }
                return sum;
            default: return NOTHING;
        }
    }

    int group(int k, int what) {
        if (k < 0 || k >= now.groups.size() || what < 0 || what > 2) {
            return NONE;
        }
        Group g = now.groups.get(k);
        return what == 0 ? g.from : what == 1 ? g.size : g.left;
    }

    int terms(int what, int value) {
        int[] least = {0, 2, 0, 0};
        int[] most = {999, 99, 10, 9};
        if (what < 0 || what > 3 || value < least[what] || value > most[what]) {
            return refuse(-1);
        }
        int was = now.terms[what];
        now.terms[what] = value;
        past.clear();
        return well(was);
    }

    int feed(int... five) {
        if (tape.size() + 20 > 400) {
            return NONE;
        }
        for (int v : five) {
            tape.add(v >>> 24);
            tape.add(v >>> 16 & 255);
            tape.add(v >>> 8 & 255);
            tape.add(v & 255);
        }
        return tape.size();
    }

    int end(int n) {
        if (n < 0 || n > tape.size()) {
            return NONE;
        }
        tape = new ArrayList<>(tape.subList(0, n));
        return n;
    }

    int row() {
        if (tape.isEmpty()) {
            return refuse(-6);
        }
        int came = 0;
        int none = 0;
        for (int i = 0; i < tape.size(); i += 3) {
            boolean can = i + 3 <= tape.size() && tape.get(i + 2) <= 9 && now.parishes.size() < 10
                    && tape.get(i) - 1 < now.parishes.size() && tape.get(i + 1) <= 99;
            if (can) {
                now.parishes.add(new int[] {tape.get(i) - 1, 10 * tape.get(i + 1) + tape.get(i + 2), 0});
                came++;
            } else {
                none++;
            }
        }
        stones = none;
        tape.clear();
        past.clear();
        return well(came);
    }

    int law() {
        List<Integer> text = tape;
        tape = new ArrayList<>();
        if (now.laws.size() == 6) {
            return refuse(-5);
        }
        try {
            now.laws.add(new Parser(text, false).text());
            fault = NONE;
            return well(now.laws.size() - 1);
        } catch (Fault f) {
            fault = f.place;
            return refuse(-6);
        }
    }

    int orders() {
        List<Integer> text = tape;
        tape = new ArrayList<>();
        stopped = NONE;
        List<Clause> clauses;
        try {
            clauses = new Parser(text, true).text();
            fault = NONE;
        } catch (Fault f) {
            fault = f.place;
            return refuse(-6);
        }
        World was = now.copy();
        Deque<Object[]> pastWas = new ArrayDeque<>(past);
        int[] done = {0, -1};
        for (int c = 0; c < clauses.size(); c++) {
            for (int t = 0; t < clauses.get(c).times; t++) {
                if (!runs(clauses.get(c), done)) {
                    now = was;
                    past = pastWas;
                    stopped = c;
                    return refuse(-3);
                }
            }
        }
        return well(done[0]);
    }

    private boolean runs(Clause c, int[] done) {
        Env env = (name, whose) -> {
            switch (name) {
                case "day": return now.terms[0];
                case "done": return done[0];
                case "latest": return done[1];
                case "sea": return now.sea;
                case "walking": return now.walking();
                case "count": return now.has(whose) ? now.parishes.get(whose)[1] : -1;
                default: return now.has(whose) ? now.over(whose) : -1;
            }
        };
        try {
            if (c.test != null && !c.test.get(env)) {
                return true;
            }
        } catch (Broken b) {
            return true;
        }
        try {
            int a = c.a == null ? 0 : (int) c.a.get(env);
            int b = c.b == null ? 0 : (int) c.b.get(env);
            int answer = act(c.kind, a, b, 1);
            if (answer < 0) {
                return false;
            }
            done[0]++;
            if (c.kind.equals("reckon")) {
                done[1] = answer;
            }
            return true;
        } catch (Broken b) {
            return false;
        }
    }

    private int act(String kind, int a, int b, int men) {
        World was = now.copy();
        int answer;
        int number;
        switch (kind) {
            case "reckon": answer = now.reckon(a); number = 0; break;
            case "pass": answer = now.pass(); number = 1; break;
            case "lend": answer = now.lend(a, b, men); number = 2; break;
            default: answer = now.grow(a, b); number = 3; break;
        }
        if (answer >= 0) {
            past.addLast(new Object[] {number, was});
            if (past.size() > 16) {
                past.removeFirst();
            }
        }
        return answer;
    }

    int force(int law) {
        if (law < -1 || law >= now.laws.size()) {
            return refuse(-2);
        }
        int was = now.forced;
        now.forced = law;
        status = 0;
        return was;
    }

    int reckon(int p) {
        return settle(act("reckon", p, 0, 0));
    }

    int pass() {
        return settle(act("pass", 0, 0, 0));
    }

    int lend(int from, int to, int men) {
        return settle(act("lend", from, to, men));
    }

    int grow(int p, int by) {
        return settle(act("grow", p, by, 0));
    }

    int undo() {
        if (past.isEmpty()) {
            return refuse(-3);
        }
        Object[] latest = past.removeLast();
        World was = (World) latest[1];
        // Only what the act changed goes back: laws, what is heard and the rest stay.
        now.parishes = was.parishes;
        now.groups = was.groups;
        now.sea = was.sea;
        now.terms[0] = was.terms[0];
        return well((Integer) latest[0]);
    }

    AtOnce atOnce(World from, int changed, int by, int ten) {
        World w = from.copy();
        w.ten = ten;
        if (changed >= 0) {
            w.parishes.get(changed)[1] += by;
        }
        int n = w.parishes.size();
        AtOnce a = new AtOnce();
        a.walk = new int[n];
        a.over = new int[n];
        boolean[] barred = new boolean[n];
        for (int p = n - 1; p >= 0; p--) {
            a.over[p] = w.over(p);
            barred[p] = w.barred(p);
            a.walk[p] = w.walkAtOnce(p);
            if (w.below(p) < 0) {
                a.toSea += a.walk[p];
            }
        }
        for (int p = 0; p < n; p++) {
            if (barred[p]) {
                a.over[p] = w.over(p);
            }
        }
        return a;
    }

    int once(int p) {
        if (p == NONE) {
            return atOnce(now, NONE, 0, 0).toSea;
        }
        return now.has(p) ? atOnce(now, NONE, 0, 0).walk[p] : NONE;
    }

    int fewest(int what) {
        if (what != 0 && what != 1) {
            return NONE;
        }
        int n = now.parishes.size();
        int best = -1;
        int bits = 0;
        for (int set = 0; set < 1 << n; set++) {
            boolean fits = true;
            for (int p = 0; p < n; p++) {
                fits &= (set >> p & 1) == 0 || now.below(p) >= 0;
            }
            if (!fits) {
                continue;
            }
            int sum = bySet(set);
            if (best < 0 || sum < best) {
                best = sum;
                bits = set;
            }
        }
        return what == 0 ? best : bits;
    }

    /** Any order that keeps to the set, here the lowest that can go each time. */
    private int bySet(int set) {
        World w = now.copy();
        int n = w.parishes.size();
        boolean[] gone = new boolean[n];
        int sum = 0;
        for (int turn = 0; turn < n; turn++) {
            for (int p = 0; p < n; p++) {
                boolean can = !gone[p];
                if (w.below(p) >= 0 && (set >> p & 1) == 0) {
                    can &= gone[w.below(p)];
                }
                for (int q = 0; q < n; q++) {
                    if (w.below(q) == p && (set >> q & 1) == 1) {
                        can &= gone[q];
                    }
                }
                if (can) {
                    gone[p] = true;
                    sum += w.walkAtOnce(p);
                    break;
                }
            }
        }
        return sum;
    }

    private int allFrom(int p) {
        int sum = now.parishes.get(p)[1];
        for (int q = 0; q < now.parishes.size(); q++) {
            if (now.below(q) == p) {
                sum += allFrom(q);
            }
        }
        return sum;
    }

    int lent(int what) {
        int n = now.parishes.size();
        int by = now.terms[1];
        for (int p = 0; p < n; p++) {
            if (now.below(p) < 0 && allFrom(p) % by != 0) {
                return NOTHING;
            }
        }
        int[] down = new int[n];
        int sum = 0;
        for (int p = 0; p < n; p++) {
            int over = allFrom(p) % by;
            int missing = (by - over) % by;
            down[p] = missing < over ? -missing : over;
            sum += Math.min(missing, over);
        }
        return what == 0 ? sum : what >= 1 && what <= n ? down[what - 1] : NOTHING;
    }

    long odds(int p, int n, int over) {
        if (!now.has(p) || n < 0 || n > 60 || over < 0 || over > 98) {
            return NONE;
        }
        int tens = now.tens(p);
        long[] parts = new long[tens];
        parts[now.over(p)] = 1000000000000L;
        for (int d = 0; d < n; d++) {
            long[] next = new long[tens];
            for (int i = 0; i < tens; i++) {
                next[i] = (parts[i] * (10 - now.terms[2]) + parts[(i + tens - 1) % tens] * now.terms[2]) / 10;
            }
            parts = next;
        }
        return over < tens ? parts[over] : 0;
    }

    int best(int what) {
        if (what != 0 && what != 1) {
            return NONE;
        }
        int ten = 0;
        int least = 0;
        for (int t = 2; t <= 99; t++) {
            int s = atOnce(now, NONE, 0, t).toSea;
            if (ten == 0 || s < least) {
                ten = t;
                least = s;
            }
        }
        return what == 0 ? ten : least;
    }

    int hear(int p, int over) {
        if (over < 0 || over > 98) {
            return refuse(-1);
        }
        if (!now.has(p)) {
            return refuse(-2);
        }
        if (now.heard.size() == 8) {
            return refuse(-5);
        }
        now.heard.add(new int[] {p, over});
        return well(now.heard.size());
    }

    int forget() {
        int n = now.heard.size();
        now.heard.clear();
        return n;
    }

    private List<Integer> hiddenOnes() {
        List<Integer> all = new ArrayList<>();
        for (int p = 0; p < now.parishes.size(); p++) {
            if (now.parishes.get(p)[1] == 0) {
                continue;
            }
            AtOnce a = atOnce(now, p, -1, 0);
            boolean so = true;
            for (int[] h : now.heard) {
                so &= a.over[h[0]] == h[1];
            }
            if (so) {
                all.add(p);
            }
        }
        return all;
    }

    int hidden(int i) {
        List<Integer> all = hiddenOnes();
        return i == NONE ? all.size() : i >= 0 && i < all.size() ? all.get(i) : NONE;
    }

    int look(int what) {
        List<Integer> all = hiddenOnes();
        if (all.isEmpty() || what < 0 || what > 1) {
            return NONE;
        }
        int at = NONE;
        int left = 0;
        for (int q = 0; q < now.parishes.size(); q++) {
            int[] alike = new int[99];
            int most = 0;
            for (int h : all) {
                int over = atOnce(now, h, -1, 0).over[q];
                alike[over]++;
                most = Math.max(most, alike[over]);
            }
            if (at == NONE || most < left) {
                at = q;
                left = most;
            }
        }
        return what == 0 ? at : left;
    }

    int moved(int p) {
        if (!now.has(p) || now.parishes.get(p)[1] == 999) {
            return NONE;
        }
        AtOnce a = atOnce(now, NONE, 0, 0);
        AtOnce b = atOnce(now, p, 1, 0);
        int bits = 0;
        for (int q = 0; q < now.parishes.size(); q++) {
            if (a.walk[q] != b.walk[q]) {
                bits += 1 << q;
            }
        }
        return bits;
    }

    int flow(int n, int what) {
        if (n < 1 || n > 60 || what < 0 || what > 2) {
            return NONE;
        }
        World w = now.copy();
        int first = 0;
        int sum = 0;
        int most = 0;
        for (int d = 1; d <= n; d++) {
            for (int p = 0; p < w.parishes.size(); p++) {
                w.reckon(p);
            }
            w.passes();
            if (w.came > 0 && first == 0) {
                first = d;
            }
            sum += w.came;
            most = Math.max(most, w.groups.size());
        }
        return what == 0 ? first : what == 1 ? sum : most;
    }

    int years(int seed, int n) {
        if (seed < 0 || seed > 1000000 || n < 1 || n > 100) {
            return refuse(-1);
        }
        if (now.parishes.isEmpty()) {
            return refuse(-3);
        }
        World w = now.copy();
        long s = seed;
        int sum = 0;
        for (int d = 0; d < n && w.terms[0] != 999; d++) {
            s = (s * 1103 + 12345) % 1000003;
            int p = (int) (s % w.parishes.size());
            s = (s * 1103 + 12345) % 1000003;
            int[] here = w.parishes.get(p);
            switch ((int) (s % 3)) {
                case 0: here[1] = Math.min(999, here[1] + 1); break;
                case 1: here[1] = Math.max(0, here[1] - 1); break;
                default: w.reckon(p); break;
            }
            w.passes();
            sum += w.came;
        }
        yearsEnd = w;
        return well(sum);
    }

    int drawn(int k, int what) {
        if (yearsEnd == null) {
            return NONE;
        }
        if (what == 2) {
            return yearsEnd.walking();
        }
        if (!yearsEnd.has(k) || what != 0 && what != 1) {
            return NONE;
        }
        return yearsEnd.parishes.get(k)[what + 1];
    }

    int image(int k) {
        if (k != 0 && k != 1) {
            return refuse(-1);
        }
        images[k] = now.copy();
        return well(0);
    }

    int back(int k) {
        if (k != 0 && k != 1) {
            return refuse(-1);
        }
        if (images[k] == null) {
            return refuse(-2);
        }
        now = images[k].copy();
        past.clear();
        return well(0);
    }

    int count(int what) {
        switch (what) {
            case 0: return now.parishes.size();
            case 1: return now.groups.size();
            case 2: return now.walking();
            case 3: return now.sea;
            case 4: return now.heard.size();
            case 5: return now.laws.size();
            case 6: return past.size();
            case 7: return tape.size();
            case 8: return refused[1];
            case 9: return refused[2];
            case 10: return refused[3];
            case 11: return refused[5];
            case 12: return refused[6];
            case 13: return now.forced;
            case 14: case 15: case 16: case 17: return now.terms[what - 14];
            default: return NONE;
        }
    }

    /** A text as tokens, and a tree made of them. */
    static final class Parser {
        private final List<String> tokens = new ArrayList<>();
        private final List<Integer> places = new ArrayList<>();
        private final boolean orders;
        private int at = 0;
        private int parts = 0;
        private int open = 0;

        Parser(List<Integer> bytes, boolean orders) {
            this.orders = orders;
            StringBuilder all = new StringBuilder();
            for (int b : bytes) {
                all.append((char) b);
            }
            java.util.regex.Matcher m = java.util.regex.Pattern
                    .compile("[a-z]+|[0-9]+|[^ ]", java.util.regex.Pattern.DOTALL).matcher(all);
            while (m.find()) {
                tokens.add(m.group());
                places.add(m.start());
            }
            tokens.add("");
            places.add(bytes.size());
        }

        private boolean sees(String t) {
            return tokens.get(at).equals(t);
        }

        private boolean takes(String t) {
            if (sees(t)) {
                at++;
                return true;
            }
            return false;
        }

        private Fault fault() {
            return new Fault(places.get(at));
        }

        private void needs(String t) throws Fault {
            if (!takes(t)) {
                throw fault();
            }
        }

        List<Clause> text() throws Fault {
            List<Clause> all = new ArrayList<>();
            do {
                if (all.size() == 12) {
                    throw fault();
                }
                all.add(orders ? order() : rule());
            } while (takes(";"));
            if (at != tokens.size() - 1) {
                throw fault();
            }
            return all;
        }

        private Clause rule() throws Fault {
            Clause c = new Clause();
            c.kind = tokens.get(at);
            if (takes("bars")) {
                c.a = null;
            } else if (takes("tens") || takes("stays") || takes("steps")) {
                c.a = sum();
            } else {
                throw fault();
            }
            if (takes("if")) {
                c.test = test();
            }
            return c;
        }

        private Clause order() throws Fault {
            Clause c = new Clause();
            c.kind = tokens.get(at);
            if (takes("reckon")) {
                c.a = sum();
            } else if (takes("lend")) {
                c.a = sum();
                needs("to");
                c.b = sum();
            } else if (takes("grow")) {
                c.a = sum();
                needs("by");
                c.b = sum();
            } else {
                needs("pass");
            }
            if (takes("times")) {
                c.times = number(1, 20);
            }
            if (takes("if")) {
                c.test = test();
            }
            return c;
        }

        private int number(int least, int most) throws Fault {
            String t = tokens.get(at);
            if (!t.matches("[0-9]+")) {
                throw fault();
            }
            java.math.BigInteger n = new java.math.BigInteger(t);
            if (n.compareTo(java.math.BigInteger.valueOf(least)) < 0
                    || n.compareTo(java.math.BigInteger.valueOf(most)) > 0) {
                throw fault();
            }
            at++;
            return n.intValue();
        }

        private Test test() throws Fault {
            List<Test> all = new ArrayList<>();
            do {
                all.add(both());
            } while (takes("or"));
            return env -> {
                for (Test t : all) {
                    if (t.get(env)) {
                        return true;
                    }
                }
                return false;
            };
        }

        private Test both() throws Fault {
            List<Test> all = new ArrayList<>();
            do {
                all.add(plain());
            } while (takes("and"));
            return env -> {
                for (Test t : all) {
                    if (!t.get(env)) {
                        return false;
                    }
                }
                return true;
            };
        }

        private void opens() throws Fault {
            if (open == 8) {
                throw fault();
            }
            open++;
            at++;
        }

        private void closes(String t) throws Fault {
            needs(t);
            open--;
        }

        private Test plain() throws Fault {
            if (takes("not")) {
                Test t = plain();
                return env -> !t.get(env);
            }
            if (sees("(")) {
                opens();
                Test t = test();
                closes(")");
                return t;
            }
            Sum a = sum();
            String op = tokens.get(at);
            if (!takes("<") && !takes(">") && !takes("=")) {
                throw fault();
            }
            Sum b = sum();
            return env -> {
                long x = a.get(env);
                long y = b.get(env);
                return op.equals("<") ? x < y : op.equals(">") ? x > y : x == y;
            };
        }

        private static long near(long v) throws Broken {
            if (Math.abs(v) > 1000000000L) {
                throw new Broken();
            }
            return v;
        }

        private Sum sum() throws Fault {
            Sum s = term();
            while (sees("+") || sees("-")) {
                boolean plus = sees("+");
                at++;
                Sum a = s;
                Sum b = term();
                s = env -> {
                    long x = a.get(env);
                    long y = b.get(env);
                    return near(plus ? x + y : x - y);
                };
            }
            return s;
        }

        private Sum term() throws Fault {
            Sum s = part();
            while (sees("*") || sees("/") || sees("%")) {
                String op = tokens.get(at);
                at++;
                Sum a = s;
                Sum b = part();
                s = env -> {
                    long x = a.get(env);
                    long y = b.get(env);
                    if (op.equals("*")) {
                        return near(x * y);
                    }
                    if (y == 0) {
                        throw new Broken();
                    }
                    return op.equals("/") ? x / y : x % y;
                };
            }
            return s;
        }

        private Sum part() throws Fault {
            if (sees("[")) {
                opens();
                Sum s = sum();
                closes("]");
                return s;
            }
            String t = tokens.get(at);
            String words = orders ? "day done latest sea walking count over"
                    : "parish count over below depth walked day mood";
            boolean word = !t.isEmpty() && java.util.Arrays.asList(words.split(" ")).contains(t);
            boolean digits = t.matches("[0-9]+");
            if (!word && !digits || parts == 50) {
                throw fault();
            }
            if (digits) {
                int n = number(0, 1000);
                parts++;
                return env -> n;
            }
            at++;
            parts++;
            boolean whose = orders && (t.equals("count") || t.equals("over"));
            int p = whose ? number(0, 9) : 0;
            return env -> env.word(t, p);
        }
    }
}
