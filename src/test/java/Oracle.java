import java.util.ArrayList;
import java.util.HashMap;
import java.util.List;
import java.util.Map;
import java.util.TreeSet;

/**
 * The document once more, as plainly and as unlike the program as can be: sets, lists and copies, distances of all pairs,
 * every order one by one, FAULT by trying what could come behind a text. RunsAgainstOracleTest holds the program to it.
 */
final class Oracle {
    static final int UNKNOWN = -1, OUTSIDE = -2, STATE = -3, FULL = -4, NONE = -9;

    static final class Walker {
        boolean lives = true;
        int place;
        int out = NONE;
    }

    static final class World {
        int n = 2;
        int home = 0;
        int hole = 1;
        int moves = 0;
        List<int[]> edges = new ArrayList<>();
        List<Integer> states = new ArrayList<>();
        List<Walker> walkers = new ArrayList<>();

        World copy() {
            World w = new World();
            w.n = n;
            w.home = home;
            w.hole = hole;
            w.moves = moves;
            w.edges = edges;
            w.states = new ArrayList<>(states);
            for (Walker one : walkers) {
                Walker two = new Walker();
                two.lives = one.lives;
                two.place = one.place;
                two.out = one.out;
                w.walkers.add(two);
            }
            return w;
        }

        World withHole(int place) {
            World w = copy();
            w.hole = place;
            return w;
        }

        World atFirst(int searchers, int holeAt) {
            World w = new World();
            w.n = n;
            w.home = home;
            w.hole = holeAt;
            w.edges = edges;
            for (int i = 0; i < edges.size(); i++) {
                w.states.add(0);
            }
            for (int i = 0; i < searchers; i++) {
                w.joinOne();
            }
            return w;
        }

        void joinOne() {
            Walker one = new Walker();
            one.place = home;
            walkers.add(one);
        }

        int living() {
            int k = 0;
            for (Walker one : walkers) {
                k += one.lives ? 1 : 0;
            }
            return k;
        }

        TreeSet<Integer> visited() {
            TreeSet<Integer> set = new TreeSet<>();
            set.add(home);
            for (int e = 0; e < edges.size(); e++) {
                if (states.get(e) == 2) {
                    set.add(edges.get(e)[0]);
                    set.add(edges.get(e)[1]);
                }
            }
            return set;
        }

        TreeSet<Integer> mayBe() {
            TreeSet<Integer> set = new TreeSet<>();
            for (int p = 0; p < n; p++) {
                set.add(p);
            }
            set.removeAll(visited());
            return set;
        }

        boolean known() {
            return mayBe().size() == 1;
        }

        TreeSet<Integer> fated() {
            TreeSet<Integer> set = mayBe();
            for (Walker one : walkers) {
                if (one.lives) {
                    set.remove(one.place);
                }
            }
            return set;
        }

        boolean endsAt(int e, int p) {
            return edges.get(e)[0] == p || edges.get(e)[1] == p;
        }

        int across(int e, int p) {
            return edges.get(e)[0] == p ? edges.get(e)[1] : edges.get(e)[0];
        }

        boolean canStep(int s, int e) {
            if (s < 0 || s >= walkers.size() || e < 0 || e >= edges.size()) {
                return false;
            }
            Walker one = walkers.get(s);
            if (!one.lives || !endsAt(e, one.place)) {
                return false;
            }
            if (one.out != NONE) {
                return one.out == e;
            }
            if (states.get(e) == 2) {
                return true;
            }
            return states.get(e) == 0 && !(known() && endsAt(e, mayBe().first()));
        }

        boolean step(int s, int e) {
            if (!canStep(s, e)) {
                return false;
            }
            moves++;
            Walker one = walkers.get(s);
            int other = across(e, one.place);
            if (one.out != NONE) {
                one.place = other;
                one.out = NONE;
                states.set(e, 2);
            } else if (states.get(e) == 2) {
                one.place = other;
            } else {
                states.set(e, 1);
                if (other == hole) {
                    one.lives = false;
                } else {
                    one.place = other;
                    one.out = e;
                }
            }
            return true;
        }

        int[][] safeDistances() {
            int far = 1000;
            int[][] d = new int[n][n];
            for (int a = 0; a < n; a++) {
                for (int b = 0; b < n; b++) {
                    d[a][b] = a == b ? 0 : far;
                }
            }
            for (int e = 0; e < edges.size(); e++) {
                if (states.get(e) == 2) {
                    d[edges.get(e)[0]][edges.get(e)[1]] = 1;
                    d[edges.get(e)[1]][edges.get(e)[0]] = 1;
                }
            }
            for (int m = 0; m < n; m++) {
                for (int a = 0; a < n; a++) {
                    for (int b = 0; b < n; b++) {
                        d[a][b] = Math.min(d[a][b], d[a][m] + d[m][b]);
                    }
                }
            }
            return d;
        }

        boolean hasUnseen(int p) {
            for (int e = 0; e < edges.size(); e++) {
                if (states.get(e) == 0 && endsAt(e, p)) {
                    return true;
                }
            }
            return false;
        }

        int caution(int s) {
            Walker one = walkers.get(s);
            if (!one.lives) {
                return NONE;
            }
            if (one.out != NONE) {
                return one.out;
            }
            if (known()) {
                return NONE;
            }
            for (int e = 0; e < edges.size(); e++) {
                if (states.get(e) == 0 && endsAt(e, one.place)) {
                    return e;
                }
            }
            int[][] d = safeDistances();
            int goal = NONE;
            for (int p = 0; p < n; p++) {
                if (hasUnseen(p) && d[one.place][p] < 1000 && (goal == NONE || d[one.place][p] < d[one.place][goal])) {
                    goal = p;
                }
            }
            if (goal == NONE) {
                return NONE;
            }
            for (int e = 0; e < edges.size(); e++) {
                if (states.get(e) == 2 && endsAt(e, one.place) && d[across(e, one.place)][goal] < d[one.place][goal]) {
                    return e;
                }
            }
            return NONE;
        }

        int round(List<Integer> come) {
            int steps = 0;
            for (int s = 0; s < walkers.size(); s++) {
                if (come == null || come.contains(s)) {
                    int e = caution(s);
                    if (e != NONE && step(s, e)) {
                        steps++;
                    }
                }
            }
            return steps;
        }

        /** Plays; tells how many rounds. */
        int play() {
            int rounds = 0;
            while (!known() && rounds < 60) {
                round(null);
                rounds++;
            }
            return known() ? rounds : NONE;
        }
    }

    private final StringBuilder text = new StringBuilder();
    World now = new World().atFirst(1, 1);
    private final List<World> row = new ArrayList<>();
    private final World[] kept = new World[2];
    private final List<int[]> seen = new ArrayList<>();
    private long seed = 0;

    private static int bits(Iterable<Integer> set) {
        int b = 0;
        for (int p : set) {
            b |= 1 << p;
        }
        return b;
    }

    private void act() {
        if (row.size() == 14) {
            row.remove(0);
        }
        row.add(now.copy());
    }

    private boolean place(int p) {
        return p >= 0 && p < now.n;
    }

    private boolean edgeThere(int e) {
        return e >= 0 && e < now.edges.size();
    }

    private boolean walker(int s) {
        return s >= 0 && s < now.walkers.size();
    }

    int write(int letter) {
        if (letter < 0 || letter > 255) {
            return OUTSIDE;
        }
        if (text.length() == 40) {
            return FULL;
        }
        text.append((char) letter);
        return text.length();
    }

    int wipe() {
        int was = text.length();
        text.setLength(0);
        return was;
    }

    static boolean isNet(String t) {
        if (!t.matches("N[2-8][0-7][0-7][1-4](e[0-7][0-7])*")) {
            return false;
        }
        int n = t.charAt(1) - '0';
        if (t.charAt(2) - '0' >= n || t.charAt(3) - '0' >= n || t.charAt(2) == t.charAt(3)) {
            return false;
        }
        TreeSet<String> pairs = new TreeSet<>();
        for (int i = 5; i < t.length(); i += 3) {
            int a = Math.min(t.charAt(i + 1), t.charAt(i + 2)) - '0';
            int b = Math.max(t.charAt(i + 1), t.charAt(i + 2)) - '0';
            if (b >= n || a == b || !pairs.add(a + "-" + b)) {
                return false;
            }
        }
        return pairs.size() <= 10;
    }

    private static final String ALPHABET = "Ne012345678";
    private static final Map<String, Boolean> MAY_BECOME = new HashMap<>();

    /** Whether letters behind it (five at most are ever needed) make it a net. */
    static boolean mayBecomeNet(String t) {
        Boolean told = MAY_BECOME.get(t);
        if (told == null) {
            told = mayBecomeNet(t, t.length() < 5 ? 5 - t.length() : 2);
            MAY_BECOME.put(t, told);
        }
        return told;
    }

    private static boolean mayBecomeNet(String t, int more) {
        if (isNet(t)) {
            return true;
        }
        for (int i = 0; more > 0 && i < ALPHABET.length(); i++) {
            if (mayBecomeNet(t + ALPHABET.charAt(i), more - 1)) {
                return true;
            }
        }
        return false;
    }

    int fault() {
        String t = text.toString();
        for (int i = 0; i < t.length(); i++) {
            if (!mayBecomeNet(t.substring(0, i + 1))) {
                return i;
            }
        }
        return isNet(t) ? NONE : t.length();
    }

    int net() {
        if (fault() != NONE) {
            return STATE;
        }
        World w = new World();
        w.n = text.charAt(1) - '0';
        w.home = text.charAt(2) - '0';
        for (int i = 5; i < text.length(); i += 3) {
            w.edges.add(new int[] {text.charAt(i + 1) - '0', text.charAt(i + 2) - '0'});
        }
        now = w.atFirst(text.charAt(4) - '0', text.charAt(3) - '0');
        row.clear();
        kept[0] = null;
        kept[1] = null;
        return now.edges.size();
    }

    int edge(int e, int what) {
        if (!edgeThere(e)) {
            return UNKNOWN;
        }
        if (what < 0 || what > 3) {
            return OUTSIDE;
        }
        int[] ends = now.edges.get(e);
        if (what == 0) {
            return Math.min(ends[0], ends[1]);
        }
        if (what == 1) {
            return Math.max(ends[0], ends[1]);
        }
        if (what == 2) {
            return now.states.get(e);
        }
        for (int s = 0; s < now.walkers.size(); s++) {
            if (now.walkers.get(s).lives && now.walkers.get(s).out == e) {
                return s;
            }
        }
        return NONE;
    }

    int searcher(int s, int what) {
        if (!walker(s)) {
            return UNKNOWN;
        }
        if (what < 0 || what > 3) {
            return OUTSIDE;
        }
        Walker one = now.walkers.get(s);
        if (what == 0) {
            return one.lives ? one.place : NONE;
        }
        if (what == 1) {
            return one.lives ? one.out : NONE;
        }
        if (what == 3) {
            return now.caution(s);
        }
        int b = 0;
        for (int e = 0; e < now.edges.size(); e++) {
            b |= now.canStep(s, e) ? 1 << e : 0;
        }
        return b;
    }

    int step(int s, int e) {
        if (!walker(s) || !edgeThere(e)) {
            return UNKNOWN;
        }
        if (!now.canStep(s, e)) {
            return STATE;
        }
        act();
        now.step(s, e);
        return now.walkers.get(s).lives ? now.walkers.get(s).place : NONE;
    }

    int round() {
        if (now.living() == 0) {
            return STATE;
        }
        act();
        return now.round(null);
    }

    int join() {
        if (now.walkers.size() == 4) {
            return FULL;
        }
        act();
        now.joinOne();
        return now.walkers.size() - 1;
    }

    int hide(int p) {
        if (!place(p)) {
            return UNKNOWN;
        }
        if (p == now.hole || !now.fated().contains(p)) {
            return STATE;
        }
        act();
        int was = now.hole;
        now.hole = p;
        return was;
    }

    int undo() {
        if (row.isEmpty()) {
            return STATE;
        }
        now = row.remove(row.size() - 1);
        return row.size();
    }

    int ask(int what) {
        switch (what) {
            case 0: return now.living();
            case 1: return now.moves;
            case 2: return bits(now.visited());
            case 3: return bits(now.mayBe());
            case 4: return now.known() ? 1 : 0;
            case 5: return worst();
            case 6: return fewest();
            case 7: return bits(now.fated());
            default: return OUTSIDE;
        }
    }

    private int worst() {
        int best = NONE;
        int most = -1;
        for (int p : now.fated()) {
            int rounds = now.withHole(p).play();
            int size = rounds == NONE ? 1000 : rounds;
            if (size > most) {
                most = size;
                best = p;
            }
        }
        return best;
    }

    private int fewest() {
        for (int k = 1; k <= 4; k++) {
            boolean all = true;
            for (int p = 0; p < now.n; p++) {
                if (p != now.home) {
                    World w = now.atFirst(k, p);
                    all &= w.play() != NONE && w.living() > 0;
                }
            }
            if (all) {
                return k;
            }
        }
        return NONE;
    }

    int fate(int p, int what) {
        if (!place(p)) {
            return UNKNOWN;
        }
        if (what < 0 || what > 2) {
            return OUTSIDE;
        }
        if (!now.fated().contains(p)) {
            return STATE;
        }
        World w = now.withHole(p);
        int rounds = w.play();
        return what == 0 ? rounds : what == 1 ? w.moves : w.living();
    }

    int judge(int n, long r) {
        if (n < 1 || n > 4 || r < 0 || Long.toString(r).length() > 3 * n) {
            return OUTSIDE;
        }
        StringBuilder figures = new StringBuilder(Long.toString(r));
        while (figures.length() < 3 * n) {
            figures.insert(0, '0');
        }
        World w = now.copy();
        for (int i = 0; i < n; i++) {
            int a = figures.charAt(3 * i) - '0';
            int b = figures.charAt(3 * i + 1) - '0';
            int c = figures.charAt(3 * i + 2) - '0';
            if (!so(w, a, b, c)) {
                return i;
            }
        }
        return NONE;
    }

    private static boolean so(World w, int a, int b, int c) {
        if (a == 1) {
            return w.step(b, c);
        }
        if (a == 5) {
            return b < w.walkers.size() && w.walkers.get(b).lives && w.walkers.get(b).place == c;
        }
        if (a == 6) {
            return b < w.edges.size() && w.states.get(b) == c;
        }
        if (b != 0) {
            return false;
        }
        if (a == 2 && c == 0 && w.living() > 0) {
            w.round(null);
            return true;
        }
        return a == 3 && w.living() == c || a == 4 && w.mayBe().contains(c) || a == 7 && w.known() && w.mayBe().contains(c);
    }

    int see(int r, int v) {
        if (r < 0 || r > 20 || v < 0 || v > 4) {
            return OUTSIDE;
        }
        if (seen.size() == 6) {
            return FULL;
        }
        seen.add(new int[] {r, v});
        return seen.size();
    }

    int unsee() {
        int was = seen.size();
        seen.clear();
        return was;
    }

    private int livedBehind(int p, int r) {
        World w = now.withHole(p);
        for (int i = 0; i < r; i++) {
            w.round(null);
        }
        return w.living();
    }

    int which() {
        TreeSet<Integer> set = now.fated();
        for (int[] one : seen) {
            set.removeIf(p -> livedBehind(p, one[0]) != one[1]);
        }
        return bits(set);
    }

    private int visitedWith(List<Integer> come) {
        World w = now.copy();
        for (int i = 0; i < 6; i++) {
            w.round(come);
        }
        return w.visited().size();
    }

    private static void orders(List<Integer> head, List<Integer> rest, List<List<Integer>> all) {
        if (rest.isEmpty()) {
            all.add(head);
        }
        for (Integer next : rest) {
            List<Integer> longer = new ArrayList<>(head);
            longer.add(next);
            List<Integer> left = new ArrayList<>(rest);
            left.remove(next);
            orders(longer, left, all);
        }
    }

    private static int told(int above, int below, boolean upper) {
        int a = Math.abs(above);
        int b = below;
        while (b != 0) {
            int c = a % b;
            a = b;
            b = c;
        }
        return upper ? above / a : below / a;
    }

    int share(int s, boolean upper) {
        if (!walker(s)) {
            return UNKNOWN;
        }
        if (!now.walkers.get(s).lives) {
            return STATE;
        }
        List<Integer> alive = new ArrayList<>();
        for (int i = 0; i < now.walkers.size(); i++) {
            if (now.walkers.get(i).lives) {
                alive.add(i);
            }
        }
        List<List<Integer>> all = new ArrayList<>();
        orders(new ArrayList<>(), alive, all);
        int sum = 0;
        for (List<Integer> order : all) {
            int at = order.indexOf(s);
            sum += visitedWith(order.subList(0, at + 1)) - visitedWith(order.subList(0, at));
        }
        return told(sum, all.size(), upper);
    }

    int luck(int r, int v, boolean upper) {
        if (r < 0 || r > 20 || v < 0 || v > 4) {
            return OUTSIDE;
        }
        TreeSet<Integer> set = now.fated();
        if (set.isEmpty()) {
            return STATE;
        }
        int lucky = 0;
        for (int p : set) {
            lucky += livedBehind(p, r) >= v ? 1 : 0;
        }
        return told(lucky, set.size(), upper);
    }

    long seed(long v) {
        long was = seed;
        seed = v;
        return was;
    }

    int drawn(int m) {
        if (m < 1 || m > 60) {
            return OUTSIDE;
        }
        World w = now.copy();
        int sum = 0;
        for (int i = 0; i < m; i++) {
            seed = seed * 6364136223846793005L + 1442695040888963407L;
            int v = (int) (seed >>> 33);
            w.step(v % 4, v / 4 % 10);
            sum += w.living();
        }
        return sum;
    }

    int keep(int slot) {
        if (slot < 0 || slot > 1) {
            return UNKNOWN;
        }
        kept[slot] = now.copy();
        return now.moves;
    }

    int again(int slot) {
        if (slot < 0 || slot > 1) {
            return UNKNOWN;
        }
        if (kept[slot] == null) {
            return STATE;
        }
        now = kept[slot].copy();
        row.clear();
        return now.moves;
    }

    int count(int what) {
        switch (what) {
            case 0: return text.length();
            case 1: return now.n;
            case 2: return now.edges.size();
            case 3: return now.walkers.size();
            case 4: return now.home;
            case 5: return now.hole;
            case 6: return row.size();
            case 7: return seen.size();
            default: return OUTSIDE;
        }
    }
}
