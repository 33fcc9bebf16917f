import java.util.Arrays;

/** Searchers on a net of places, one of which swallows who comes to it. */
public final class DarkPlace {
    public static final int UNKNOWN = -1, OUTSIDE = -2, STATE = -3, FULL = -4, NONE = -9;

    private static final int MOST_LETTERS = 40;
    private static final int MOST_PLACES = 8;
    private static final int MOST_EDGES = 10;
    private static final int MOST_SEARCHERS = 4;
    private static final int MOST_ACTS = 14;
    private static final int MOST_SEEN = 6;
    private static final int MOST_SEEN_ROUNDS = 20;
    private static final int MOST_FATE_ROUNDS = 60;
    private static final int MOST_DOINGS = 4;
    private static final int MOST_DRAWS = 60;
    private static final int SHARE_ROUNDS = 6;
    private static final int SLOTS = 2;

    private static final int UNSEEN = 0;
    private static final int ASKED = 1;
    private static final int SAFE = 2;

    /** As a set of searchers: none is left out. */
    private static final int EVERYONE = (1 << MOST_SEARCHERS) - 1;

    private static final long SEED_FACTOR = 6364136223846793005L;
    private static final long SEED_ADDEND = 1442695040888963407L;

    private static final int[] FACTORIALS = {1, 1, 2, 6, 24};
    private static final long[] THOUSANDS = {1L, 1000L, 1000000L, 1000000000L, 1000000000000L};

    private final Text text = new Text();
    private final Net ground = new Net();
    private final Net draft = new Net();
    private final Stand now = new Stand(ground);
    /** Where all that is only asked is played, so that no call makes objects. */
    private final Stand trial = new Stand(ground);
    private final Acts acts = new Acts(ground);
    private final Stand[] slots = new Stand[SLOTS];
    private final boolean[] filled = new boolean[SLOTS];
    private final Seen seen = new Seen();
    private long chance = 0;

    public DarkPlace() {
        for (int slot = 0; slot < SLOTS; slot++) {
            slots[slot] = new Stand(ground);
        }
    }

    // ---- the net

    public int write(int letter) {
        if (letter < 0 || letter > 255) {
            return OUTSIDE;
        }
        if (text.isFull()) {
            return FULL;
        }
        return text.add(letter);
    }

    public int wipe() {
        return text.clear();
    }

    public int fault() {
        return text.readInto(draft);
    }

    public int net() {
        if (text.readInto(draft) != NONE) {
            return STATE;
        }
        ground.become(draft);
        now.begin(ground.searchers, ground.hole);
        acts.clear();
        for (int slot = 0; slot < SLOTS; slot++) {
            filled[slot] = false;
        }
        return ground.edges;
    }

    public int edge(int edge, int what) {
        if (!ground.isEdge(edge)) {
            return UNKNOWN;
        }
        switch (what) {
            case 0:
                return ground.lesserEnd(edge);
            case 1:
                return ground.greaterEnd(edge);
            case 2:
                return now.stateOf(edge);
            case 3:
                return now.whoIsOutThrough(edge);
            default:
                return OUTSIDE;
        }
    }

    public int searcher(int searcher, int what) {
        if (!now.isSearcher(searcher)) {
            return UNKNOWN;
        }
        switch (what) {
            case 0:
                return now.placeOf(searcher);
            case 1:
                return now.wayOutOf(searcher);
            case 2:
                return now.openEdges(searcher);
            case 3:
                return now.cautiousEdge(searcher);
            default:
                return OUTSIDE;
        }
    }

    // ---- acts

    public int step(int searcher, int edge) {
        if (!now.isSearcher(searcher) || !ground.isEdge(edge)) {
            return UNKNOWN;
        }
        if (!now.canGo(searcher, edge)) {
            return STATE;
        }
        acts.remember(now);
        now.go(searcher, edge);
        return now.placeOf(searcher);
    }

    public int round() {
        if (now.living() == 0) {
            return STATE;
        }
        acts.remember(now);
        return now.playRound(EVERYONE);
    }

    public int join() {
        if (now.searchers >= MOST_SEARCHERS) {
            return FULL;
        }
        acts.remember(now);
        return now.addSearcher();
    }

    public int hide(int place) {
        if (!ground.isPlace(place)) {
            return UNKNOWN;
        }
        int former = now.hole;
        if (place == former || !holds(now.fated(), place)) {
            return STATE;
        }
        acts.remember(now);
        now.hole = place;
        return former;
    }

    public int undo() {
        if (acts.size == 0) {
            return STATE;
        }
        return acts.takeBack(now);
    }

    // ---- asked

    public int ask(int what) {
        switch (what) {
            case 0:
                return now.living();
            case 1:
                return now.moves;
            case 2:
                return now.visited;
            case 3:
                return now.mayBe();
            case 4:
                return now.isKnown() ? 1 : 0;
            case 5:
                return worstPlace();
            case 6:
                return fewestSearchers();
            case 7:
                return now.fated();
            default:
                return OUTSIDE;
        }
    }

    public int fate(int place, int what) {
        if (!ground.isPlace(place)) {
            return UNKNOWN;
        }
        if (what < 0 || what > 2) {
            return OUTSIDE;
        }
        if (!holds(now.fated(), place)) {
            return STATE;
        }
        trial.suppose(now, place);
        int rounds = trial.playTillKnown();
        if (what == 0) {
            return rounds;
        }
        return what == 1 ? trial.moves : trial.living();
    }

    public int judge(int n, long row) {
        if (n < 1 || n > MOST_DOINGS || row < 0 || row >= THOUSANDS[n]) {
            return OUTSIDE;
        }
        trial.become(now);
        for (int place = 0; place < n; place++) {
            int doing = (int) (row / THOUSANDS[n - 1 - place] % 1000);
            if (!trial.allows(doing / 100, doing / 10 % 10, doing % 10)) {
                return place;
            }
        }
        return NONE;
    }

    // ---- seen

    public int see(int r, int v) {
        if (isOutsideOfSeen(r, v)) {
            return OUTSIDE;
        }
        if (seen.size >= MOST_SEEN) {
            return FULL;
        }
        return seen.add(r, v);
    }

    public int unsee() {
        return seen.clear();
    }

    public int which() {
        int fated = now.fated();
        int fitting = 0;
        for (int place = 0; place < MOST_PLACES; place++) {
            if (holds(fated, place) && fitsAllSeen(place)) {
                fitting |= 1 << place;
            }
        }
        return fitting;
    }

    // ---- shares, chances

    public int share(int searcher, boolean upper) {
        if (!now.isSearcher(searcher)) {
            return UNKNOWN;
        }
        if (!now.lives(searcher)) {
            return STATE;
        }
        int orders = FACTORIALS[now.living()];
        return fraction(gainInAllOrders(searcher), orders, upper);
    }

    public int luck(int r, int v, boolean upper) {
        if (isOutsideOfSeen(r, v)) {
            return OUTSIDE;
        }
        int fated = now.fated();
        if (fated == 0) {
            return STATE;
        }
        int lucky = 0;
        for (int place = 0; place < MOST_PLACES; place++) {
            if (holds(fated, place) && livingBehind(place, r) >= v) {
                lucky++;
            }
        }
        return fraction(lucky, Integer.bitCount(fated), upper);
    }

    public long seed(long v) {
        long former = chance;
        chance = v;
        return former;
    }

    public int drawn(int m) {
        if (m < 1 || m > MOST_DRAWS) {
            return OUTSIDE;
        }
        trial.become(now);
        int together = 0;
        for (int time = 0; time < m; time++) {
            chance = chance * SEED_FACTOR + SEED_ADDEND;
            int drawn = (int) (chance >>> 33);
            trial.goIfPossible(drawn % MOST_SEARCHERS, drawn / MOST_SEARCHERS % MOST_EDGES);
            together += trial.living();
        }
        return together;
    }

    // ---- slots

    public int keep(int slot) {
        if (slot < 0 || slot >= SLOTS) {
            return UNKNOWN;
        }
        slots[slot].become(now);
        filled[slot] = true;
        return now.moves;
    }

    public int again(int slot) {
        if (slot < 0 || slot >= SLOTS) {
            return UNKNOWN;
        }
        if (!filled[slot]) {
            return STATE;
        }
        now.become(slots[slot]);
        acts.clear();
        return now.moves;
    }

    public int count(int what) {
        switch (what) {
            case 0:
                return text.length;
            case 1:
                return ground.places;
            case 2:
                return ground.edges;
            case 3:
                return now.searchers;
            case 4:
                return ground.home;
            case 5:
                return now.hole;
            case 6:
                return acts.size;
            case 7:
                return seen.size;
            default:
                return OUTSIDE;
        }
    }

    // ---- what the calls above share

    private int worstPlace() {
        int fated = now.fated();
        int worst = NONE;
        int most = -1;
        for (int place = 0; place < MOST_PLACES; place++) {
            if (holds(fated, place)) {
                trial.suppose(now, place);
                int rounds = trial.playTillKnown();
                int weight = rounds == NONE ? MOST_FATE_ROUNDS + 1 : rounds;
                if (weight > most) {
                    most = weight;
                    worst = place;
                }
            }
        }
        return worst;
    }

    private int fewestSearchers() {
        for (int searchers = 1; searchers <= MOST_SEARCHERS; searchers++) {
            boolean enough = true;
            for (int place = 0; place < ground.places && enough; place++) {
                if (place != ground.home) {
                    trial.begin(searchers, place);
                    enough = trial.playTillKnown() != NONE && trial.living() > 0;
                }
            }
            if (enough) {
                return searchers;
            }
        }
        return NONE;
    }

    private static boolean isOutsideOfSeen(int rounds, int living) {
        return rounds < 0 || rounds > MOST_SEEN_ROUNDS || living < 0 || living > MOST_SEARCHERS;
    }

    private boolean fitsAllSeen(int place) {
        if (seen.size == 0) {
            return true;
        }
        trial.suppose(now, place);
        int last = seen.mostRounds();
        // One play serves all that is seen: each is looked at when its round has come.
        for (int rounds = 0; rounds <= last; rounds++) {
            if (rounds > 0) {
                trial.playRound(EVERYONE);
            }
            if (seen.speaksAgainst(rounds, trial.living())) {
                return false;
            }
        }
        return true;
    }

    private int livingBehind(int place, int rounds) {
        trial.suppose(now, place);
        for (int played = 0; played < rounds; played++) {
            trial.playRound(EVERYONE);
        }
        return trial.living();
    }

    /**
     * How many more places are visited when the searcher has come, added up over every order in which those that live
     * may come. Orders in which the same ones have come ahead of it are weighed together.
     */
    private int gainInAllOrders(int searcher) {
        int others = now.livingOnes() & ~(1 << searcher);
        int otherCount = Integer.bitCount(others);
        int sum = 0;
        for (int ahead = 0; ahead <= EVERYONE; ahead++) {
            if ((ahead & ~others) == 0) {
                int aheadCount = Integer.bitCount(ahead);
                int orders = FACTORIALS[aheadCount] * FACTORIALS[otherCount - aheadCount];
                sum += orders * (visitedBy(ahead | 1 << searcher) - visitedBy(ahead));
            }
        }
        return sum;
    }

    private int visitedBy(int searchers) {
        trial.become(now);
        for (int played = 0; played < SHARE_ROUNDS; played++) {
            trial.playRound(searchers);
        }
        return Integer.bitCount(trial.visited);
    }

    private static int fraction(int above, int below, boolean upper) {
        int divisor = commonDivisor(above, below);
        return upper ? above / divisor : below / divisor;
    }

    private static int commonDivisor(int above, int below) {
        for (int divisor = below; divisor > 1; divisor--) {
            if (above % divisor == 0 && below % divisor == 0) {
                return divisor;
            }
        }
        return 1;
    }

    private static boolean holds(int bits, int number) {
        return (bits >> number & 1) != 0;
    }

    /** The least number in a set that has one. */
    private static int least(int bits) {
        int number = 0;
        while (number < MOST_EDGES && (bits >> number & 1) == 0) {
            number++;
        }
        return number;
    }

    private static final class Text {
        private final int[] letters = new int[MOST_LETTERS];
        private int length = 0;

        boolean isFull() {
            return length >= MOST_LETTERS;
        }

        int add(int letter) {
            if (!isFull()) {
                letters[length] = letter;
                length++;
            }
            return length;
        }

        int clear() {
            int former = length;
            length = 0;
            return former;
        }

        /** Answers the text's fault; the net is whole only if there is none. */
        int readInto(Net net) {
            net.clear();
            for (int place = 0; place < length; place++) {
                if (!net.takes(place, letters[place])) {
                    return place;
                }
            }
            return Net.mayEndAt(length) ? NONE : length;
        }
    }

    /** What a text tells: it stays the same whatever the searchers do. */
    private static final class Net {
        private static final int HEAD = 5;
        private static final int LETTERS_OF_EDGE = 3;

        private int places = 2;
        private int home = 0;
        private int hole = 1;
        private int searchers = 1;
        private int edges = 0;
        /** Of each edge both its places, of each place its edges: as bits. */
        private final int[] ends = new int[MOST_EDGES];
        private final int[] edgesAt = new int[MOST_PLACES];
        /** Only for reading: the first place of the edge that has begun, and which places have an edge to which. */
        private int from = 0;
        private final int[] beside = new int[MOST_PLACES];

        void clear() {
            edges = 0;
            Arrays.fill(edgesAt, 0);
            Arrays.fill(beside, 0);
        }

        void become(Net other) {
            places = other.places;
            home = other.home;
            hole = other.hole;
            searchers = other.searchers;
            edges = other.edges;
            System.arraycopy(other.ends, 0, ends, 0, MOST_EDGES);
            System.arraycopy(other.edgesAt, 0, edgesAt, 0, MOST_PLACES);
        }

        static boolean mayEndAt(int length) {
            return length >= HEAD && (length - HEAD) % LETTERS_OF_EDGE == 0;
        }

        /** Whether the letter can stand there behind those that were taken ahead of it. */
        boolean takes(int place, int letter) {
            int figure = letter - '0';
            switch (place) {
                case 0:
                    return letter == 'N';
                case 1:
                    places = figure;
                    return figure >= 2 && figure <= MOST_PLACES;
                case 2:
                    home = figure;
                    return isPlace(figure);
                case 3:
                    hole = figure;
                    return isPlace(figure) && figure != home;
                case 4:
                    searchers = figure;
                    return figure >= 1 && figure <= MOST_SEARCHERS;
                default:
                    return takesOfEdge((place - HEAD) % LETTERS_OF_EDGE, letter);
            }
        }

        private boolean takesOfEdge(int part, int letter) {
            int figure = letter - '0';
            if (part == 0) {
                return letter == 'e' && edges < MOST_EDGES && edges < places * (places - 1) / 2;
            }
            if (!isPlace(figure)) {
                return false;
            }
            if (part == 1) {
                from = figure;
                return Integer.bitCount(beside[figure]) < places - 1;
            }
            return addEdge(from, figure);
        }

        private boolean addEdge(int one, int other) {
            if (one == other || edges >= MOST_EDGES || holds(beside[one], other)) {
                return false;
            }
            ends[edges] = 1 << one | 1 << other;
            edgesAt[one] |= 1 << edges;
            edgesAt[other] |= 1 << edges;
            beside[one] |= 1 << other;
            beside[other] |= 1 << one;
            edges++;
            return true;
        }

        boolean isPlace(int place) {
            return place >= 0 && place < places && place < MOST_PLACES;
        }

        boolean isEdge(int edge) {
            return edge >= 0 && edge < edges;
        }

        int lesserEnd(int edge) {
            return isEdge(edge) ? least(ends[edge]) : NONE;
        }

        int greaterEnd(int edge) {
            return isEdge(edge) ? otherEnd(edge, lesserEnd(edge)) : NONE;
        }

        int otherEnd(int edge, int place) {
            return isEdge(edge) ? least(ends[edge] & ~(1 << place)) : NONE;
        }

        int edgesFrom(int place) {
            return place >= 0 && place < MOST_PLACES ? edgesAt[place] : 0;
        }

        int allEdges() {
            return (1 << edges) - 1;
        }

        /** All edges that end at one of the places. */
        int edgesAtAny(int some) {
            int found = 0;
            for (int place = 0; place < MOST_PLACES; place++) {
                if ((some >> place & 1) != 0) {
                    found |= edgesAt[place];
                }
            }
            return found;
        }

        /** All places at which one of the edges ends. */
        int endsOf(int some) {
            int found = 0;
            for (int edge = 0; edge < edges; edge++) {
                if ((some >> edge & 1) != 0) {
                    found |= ends[edge];
                }
            }
            return found;
        }

        /** The places, and those that lie one of the edges away from them. */
        int widened(int some, int through) {
            int wider = some;
            for (int edge = 0; edge < edges; edge++) {
                if ((through >> edge & 1) != 0 && (ends[edge] & some) != 0) {
                    wider |= ends[edge];
                }
            }
            return wider;
        }
    }

    /** How all stands on a net at one time. */
    private static final class Stand {
        private final Net net;
        /** Of each searcher where it is (NONE: swallowed), and through which edge it is out (NONE: it is not). */
        private final int[] at = new int[MOST_SEARCHERS];
        private final int[] out = new int[MOST_SEARCHERS];
        private int searchers = 0;
        private int hole = 0;
        private int moves = 0;
        private int unseen = 0;
        private int safe = 0;
        /** Kept beside the safe edges from which it follows, as every searcher's caution asks for it. */
        private int visited = 0;

        Stand(Net net) {
            this.net = net;
            begin(net.searchers, net.hole);
        }

        void begin(int searchers, int hole) {
            this.searchers = Math.min(searchers, MOST_SEARCHERS);
            this.hole = hole;
            Arrays.fill(at, net.home);
            Arrays.fill(out, NONE);
            moves = 0;
            unseen = net.allEdges();
            safe = 0;
            visited = 1 << net.home;
        }

        void become(Stand other) {
            for (int searcher = 0; searcher < MOST_SEARCHERS; searcher++) {
                at[searcher] = other.at[searcher];
                out[searcher] = other.out[searcher];
            }
            searchers = other.searchers;
            hole = other.hole;
            moves = other.moves;
            unseen = other.unseen;
            safe = other.safe;
            visited = other.visited;
        }

        /** All as it is elsewhere, but that the hole is at the place. */
        void suppose(Stand other, int place) {
            become(other);
            hole = place;
        }

        boolean isSearcher(int searcher) {
            return searcher >= 0 && searcher < searchers;
        }

        boolean lives(int searcher) {
            return isSearcher(searcher) && at[searcher] != NONE;
        }

        int placeOf(int searcher) {
            return isSearcher(searcher) ? at[searcher] : NONE;
        }

        int wayOutOf(int searcher) {
            return isSearcher(searcher) ? out[searcher] : NONE;
        }

        int livingOnes() {
            int ones = 0;
            for (int searcher = 0; searcher < searchers; searcher++) {
                if (at[searcher] != NONE) {
                    ones |= 1 << searcher;
                }
            }
            return ones;
        }

        int living() {
            return Integer.bitCount(livingOnes());
        }

        int stateOf(int edge) {
            if (holds(unseen, edge)) {
                return UNSEEN;
            }
            return holds(safe, edge) ? SAFE : ASKED;
        }

        int whoIsOutThrough(int edge) {
            for (int searcher = 0; searcher < searchers; searcher++) {
                if (out[searcher] == edge) {
                    return searcher;
                }
            }
            return NONE;
        }

        int mayBe() {
            return (1 << net.places) - 1 & ~visited;
        }

        boolean isKnown() {
            return Integer.bitCount(mayBe()) == 1;
        }

        boolean isKnownAt(int place) {
            return isKnown() && holds(mayBe(), place);
        }

        /** The places that have a fate. */
        int fated() {
            int fated = mayBe();
            for (int searcher = 0; searcher < searchers; searcher++) {
                if (at[searcher] != NONE) {
                    fated &= ~(1 << at[searcher]);
                }
            }
            return fated;
        }

        int addSearcher() {
            int added = searchers;
            if (added < MOST_SEARCHERS) {
                at[added] = net.home;
                out[added] = NONE;
                searchers++;
            }
            return added;
        }

        /** The edges through which the searcher can make a step. */
        int openEdges(int searcher) {
            if (!lives(searcher)) {
                return 0;
            }
            if (out[searcher] != NONE) {
                return 1 << out[searcher];
            }
            int askable = isKnown() ? unseen & ~net.edgesFrom(least(mayBe())) : unseen;
            return net.edgesFrom(at[searcher]) & (safe | askable);
        }

        boolean canGo(int searcher, int edge) {
            return net.isEdge(edge) && holds(openEdges(searcher), edge);
        }

        boolean goIfPossible(int searcher, int edge) {
            if (!canGo(searcher, edge)) {
                return false;
            }
            go(searcher, edge);
            return true;
        }

        /** A step that can be. */
        void go(int searcher, int edge) {
            if (!lives(searcher)) {
                return;
            }
            int there = net.otherEnd(edge, at[searcher]);
            moves++;
            if (out[searcher] != NONE) {
                comeBack(searcher, edge, there);
            } else if (holds(safe, edge)) {
                at[searcher] = there;
            } else {
                goOut(searcher, edge, there);
            }
        }

        private void comeBack(int searcher, int edge, int there) {
            safe |= 1 << edge;
            visited |= 1 << at[searcher] | 1 << there;
            at[searcher] = there;
            out[searcher] = NONE;
        }

        private void goOut(int searcher, int edge, int there) {
            unseen &= ~(1 << edge);
            if (there == hole) {
                at[searcher] = NONE;
            } else {
                at[searcher] = there;
                out[searcher] = edge;
            }
        }

        /** The edge through which caution tells the searcher to go; NONE: it rests. */
        int cautiousEdge(int searcher) {
            if (!lives(searcher)) {
                return NONE;
            }
            if (out[searcher] != NONE) {
                return out[searcher];
            }
            if (isKnown()) {
                return NONE;
            }
            int unseenHere = net.edgesFrom(at[searcher]) & unseen;
            if (unseenHere != 0) {
                return least(unseenHere);
            }
            int goal = nearestUnseen(at[searcher]);
            return goal == NONE ? NONE : edgeTowards(goal, at[searcher]);
        }

        /** Of the nearest places at which an unseen edge ends the least; NONE: no such can be come to. */
        private int nearestUnseen(int place) {
            int goals = net.endsOf(unseen);
            int reached = 1 << place;
            for (int distance = 1; distance < MOST_PLACES; distance++) {
                int wider = net.widened(reached, safe);
                if (wider == reached) {
                    return NONE;
                }
                if ((wider & goals) != 0) {
                    return least(wider & goals);
                }
                reached = wider;
            }
            return NONE;
        }

        /** The least of the safe edges by which one comes nearer to a goal that can be come to. */
        private int edgeTowards(int goal, int place) {
            int around = 1 << goal;
            for (int distance = 1; distance < MOST_PLACES; distance++) {
                int nearer = net.edgesFrom(place) & safe & net.edgesAtAny(around);
                if (nearer != 0) {
                    return least(nearer);
                }
                around = net.widened(around, safe);
            }
            return NONE;
        }

        /** A round in which only some take part; answers how many made a step. */
        int playRound(int some) {
            int steps = 0;
            for (int searcher = 0; searcher < searchers; searcher++) {
                if (holds(some, searcher)) {
                    int edge = cautiousEdge(searcher);
                    if (edge != NONE) {
                        go(searcher, edge);
                        steps++;
                    }
                }
            }
            return steps;
        }

        /** Answers how many rounds it took; NONE: it is not known even then. */
        int playTillKnown() {
            for (int rounds = 0; rounds < MOST_FATE_ROUNDS; rounds++) {
                if (isKnown()) {
                    return rounds;
                }
                // Where all rest nothing changes, so they rest in all rounds to come.
                if (playRound(EVERYONE) == 0) {
                    return NONE;
                }
            }
            return isKnown() ? MOST_FATE_ROUNDS : NONE;
        }

        /** Whether a told doing can be, or is so; a step and a round are made. */
        boolean allows(int kind, int first, int second) {
            switch (kind) {
                case 1:
                    return goIfPossible(first, second);
                case 2:
                    return first == 0 && second == 0 && playIfAnyLives();
                case 3:
                    return first == 0 && living() == second;
                case 4:
                    return first == 0 && holds(mayBe(), second);
                case 5:
                    return lives(first) && placeOf(first) == second;
                case 6:
                    return net.isEdge(first) && stateOf(first) == second;
                case 7:
                    return first == 0 && isKnownAt(second);
                default:
                    return false;
            }
        }

        private boolean playIfAnyLives() {
            if (living() == 0) {
                return false;
            }
            playRound(EVERYONE);
            return true;
        }
    }

    /** How all stood ahead of each of the last acts. */
    private static final class Acts {
        private final Stand[] before = new Stand[MOST_ACTS];
        private int size = 0;

        Acts(Net net) {
            for (int act = 0; act < MOST_ACTS; act++) {
                before[act] = new Stand(net);
            }
        }

        void clear() {
            size = 0;
        }

        void remember(Stand stand) {
            if (size >= MOST_ACTS) {
                forgetFirst();
            }
            before[size].become(stand);
            size++;
        }

        /** The first one's object comes last, to be used again. */
        private void forgetFirst() {
            Stand first = before[0];
            for (int act = 1; act < MOST_ACTS; act++) {
                before[act - 1] = before[act];
            }
            before[MOST_ACTS - 1] = first;
            size = MOST_ACTS - 1;
        }

        int takeBack(Stand stand) {
            if (size > 0) {
                size--;
                stand.become(before[size]);
            }
            return size;
        }
    }

    /** That behind so many rounds so many lived. */
    private static final class Seen {
        private final int[] rounds = new int[MOST_SEEN];
        private final int[] living = new int[MOST_SEEN];
        private int size = 0;

        int add(int behind, int lived) {
            if (size < MOST_SEEN) {
                rounds[size] = behind;
                living[size] = lived;
                size++;
            }
            return size;
        }

        int clear() {
            int former = size;
            size = 0;
            return former;
        }

        int mostRounds() {
            int most = 0;
            for (int one = 0; one < size; one++) {
                most = Math.max(most, rounds[one]);
            }
            return most;
        }

        boolean speaksAgainst(int behind, int lived) {
            for (int one = 0; one < size; one++) {
                if (rounds[one] == behind && living[one] != lived) {
                    return true;
                }
            }
            return false;
        }
    }
}
