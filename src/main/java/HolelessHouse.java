import java.util.Arrays;

public final class HolelessHouse {
    public static final int BAD = -1, FULL = -2, FINDING = -3, STATE = -4, NONE = -9;

    private static final int MOST_NODES = 12;
    private static final int MOST_COLUMNS = 8;
    private static final int TABLE_ROWS = 12;
    private static final int MISSING = -1;

    // No graph of twelve nodes has more great cliques than 3 * 3 * 3 * 3.
    private static final int MOST_CLIQUES = 81;
    // No part holds another one, so of the sets of ten nodes at most 252 are parts.
    private static final int MOST_PARTS = 252;

    private static final int NOTHING = 1, BEYOND = 2, UNLIKE = 3, SIZE = 4;
    private static final int PLAIN = 0, TIGHT = 1, LONE = 2, HUB = 3;
    private static final int BY_TIGHT = 0, BY_JOINED = 1, BY_FILL = 2;
    private static final int LEAST_FILL = 0, LEAST_WIDTH = 1;
    // Above every fill and every width: twelve nodes have 66 pairs.
    private static final int NO_PRICE = 1000;

    private final Graph graph = new Graph();
    private final Table table = new Table();
    private final Ordering ordering = new Ordering();
    private final Ring ring = new Ring();
    private final Cliques cliques = new Cliques(false);
    private final Cliques looseSets = new Cliques(true);
    private final Paint paint = new Paint();
    private final Parts parts = new Parts();
    private final FarThree farThree = new FarThree();
    private final Benches spans = new Benches(MOST_NODES);
    private final Benches seats = new Benches(MOST_COLUMNS);
    private final int[] timesFound = new int[SIZE + 1];
    private int latest = 0;

    public HolelessHouse() {
    }

    // ---- 1 the graph

    public int nodes(int n) {
        if (n < 0 || n > MOST_NODES) {
            return BAD;
        }
        startGraph(n);
        return n;
    }

    public int join(int a, int b, boolean is) {
        if (!graph.has(a) || !graph.has(b) || a == b) {
            return BAD;
        }
        int before = graph.touches(a, b) ? 1 : 0;
        graph.set(a, b, is);
        ordering.drop();
        return before;
    }

    public int joined(int a) {
        return graph.has(a) ? graph.near[a] : BAD;
    }

    public int kind(int a) {
        if (!graph.has(a)) {
            return BAD;
        }
        if (isKind(a, LONE)) {
            return LONE;
        }
        if (isKind(a, TIGHT)) {
            return TIGHT;
        }
        return isKind(a, HUB) ? HUB : PLAIN;
    }

    public int degree(int a, int kind) {
        if (!graph.has(a) || kind < PLAIN || kind > HUB) {
            return BAD;
        }
        if (!isKind(a, kind)) {
            return found(UNLIKE);
        }
        return Integer.bitCount(graph.near[a]);
    }

    public int sound() {
        ring.bring(graph);
        return ring.length == 0 ? 1 : 0;
    }

    public int hole(int i) {
        ring.bring(graph);
        return i >= 0 && i < ring.length ? ring.path[i] : NONE;
    }

    public int fromTable() {
        startGraph(table.width);
        for (int r = 0; r < TABLE_ROWS; r++) {
            if (table.rows[r] != MISSING) {
                graph.joinAll(table.rows[r]);
            }
        }
        return graph.size;
    }

    public int turn() {
        graph.invert();
        ordering.drop();
        return graph.pairs();
    }

    // ---- 2 orders

    public int draft(int a) {
        if (!graph.has(a) || ordering.drafted(a)) {
            return BAD;
        }
        ordering.addToDraft(a);
        return ordering.draftSize;
    }

    public int take() {
        boolean whole = ordering.draftSet() == graph.all();
        if (whole) {
            ordering.followDraft(graph);
        }
        ordering.draftSize = 0;
        return whole ? ordering.filled : STATE;
    }

    public int rule(int r) {
        if (r < BY_TIGHT || r > BY_FILL) {
            return BAD;
        }
        ordering.followRule(graph, r);
        return ordering.filled;
    }

    public int least(int what) {
        if (what != LEAST_FILL && what != LEAST_WIDTH) {
            return BAD;
        }
        ordering.followLeast(graph, what);
        return what == LEAST_FILL ? ordering.filled : ordering.width;
    }

    public int order(int i) {
        return i >= 0 && i < ordering.length() ? ordering.places[i] : NONE;
    }

    public int about(int what) {
        if (what < 0 || what > 2) {
            return BAD;
        }
        if (!ordering.there) {
            return NONE;
        }
        if (what == 0) {
            return ordering.filled;
        }
        if (what == 1) {
            return ordering.width;
        }
        return ordering.filled == 0 ? 1 : 0;
    }

    public int fill() {
        if (!ordering.there) {
            return NONE;
        }
        ordering.fillIn(graph);
        ordering.drop();
        return ordering.filled;
    }

    // ---- 3 cliques, colours, parts, spans

    public int clique(int i) {
        cliques.bring(graph);
        if (i == -1) {
            return cliques.size;
        }
        return cliques.has(i) ? cliques.sets[i] : NONE;
    }

    public int greatest() {
        cliques.bring(graph);
        return Integer.bitCount(cliques.widest());
    }

    public int sort(int bits) {
        if (bits <= 0 || bits > graph.all()) {
            return BAD;
        }
        int together = graph.isClique(bits) ? 1 : 0;
        int loose = graph.isLoose(bits) ? 2 : 0;
        return together + loose;
    }

    public int colour(int a) {
        if (a != -1 && !graph.has(a)) {
            return BAD;
        }
        cliques.bring(graph);
        paint.bring(graph, Integer.bitCount(cliques.widest()));
        return a == -1 ? paint.most : paint.hues[a];
    }

    public int apart() {
        looseSets.bring(graph);
        return looseSets.widest();
    }

    public int tree(int i, int what) {
        cliques.bring(graph);
        if (!cliques.has(i) || what < 0 || what > 1) {
            return BAD;
        }
        ring.bring(graph);
        // A graph with more great cliques than nodes is never sound.
        if (ring.length != 0 || i >= MOST_NODES) {
            return STATE;
        }
        cliques.bringTree();
        return what == 0 ? cliques.parents[i] : cliques.shared[i];
    }

    public int part(int a, int b, int i) {
        if (!graph.has(a) || !graph.has(b) || a == b) {
            return BAD;
        }
        if (graph.touches(a, b)) {
            return STATE;
        }
        parts.bring(graph, a, b);
        if (i == -1) {
            return parts.size;
        }
        return i >= 0 && i < parts.size ? parts.sets[i] : NONE;
    }

    public int line(int i) {
        bringSpans();
        return spans.seated && i >= 0 && i < spans.width ? spans.places[i] : NONE;
    }

    public int span(int a, boolean end) {
        if (!graph.has(a)) {
            return BAD;
        }
        bringSpans();
        if (!spans.seated) {
            return STATE;
        }
        return end ? spans.lastOf(a) : spans.firstOf(a);
    }

    public int far(int i) {
        farThree.bring(graph);
        return farThree.there && i >= 0 && i < 3 ? farThree.three[i] : NONE;
    }

    // ---- 4 the table

    public int columns(int c) {
        if (c > MOST_COLUMNS) {
            return BAD;
        }
        if (c < 0) {
            return found(SIZE);
        }
        table.restart(c);
        return c;
    }

    public int row(int r, int bits) {
        if (bits < 0 || bits >= 1 << table.width) {
            return BAD;
        }
        if (!table.hasPlace(r)) {
            return found(BEYOND);
        }
        table.put(r, bits);
        return 1;
    }

    public int told(int r) {
        if (!table.hasPlace(r)) {
            return found(BEYOND);
        }
        return table.rows[r] == MISSING ? found(NOTHING) : table.rows[r];
    }

    public int tear(int r) {
        if (!table.hasPlace(r)) {
            return found(BEYOND);
        }
        if (table.rows[r] == MISSING) {
            return found(NOTHING);
        }
        table.put(r, MISSING);
        return 1;
    }

    public int copy(int r, int to, int n) {
        if (!table.hasRun(r, n) || !table.hasRun(to, n)) {
            return found(BEYOND);
        }
        table.move(r, to, n);
        return 1;
    }

    public int seatings() {
        bringSeats();
        return seats.ways;
    }

    public int seat(int i) {
        bringSeats();
        return seats.seated && i >= 0 && i < seats.width ? seats.places[i] : NONE;
    }

    // ---- 5 what is told

    public int count(int what) {
        switch (what) {
            case 0:
                return graph.size;
            case 1:
                return graph.pairs();
            case 2:
                return table.width;
            case 3:
                return table.present();
            case 4:
                return ordering.draftSize;
            default:
                return BAD;
        }
    }

    public int finding() {
        return latest;
    }

    public int findings(int f) {
        return f >= NOTHING && f <= SIZE ? timesFound[f] : BAD;
    }

    public long digest() {
        long h = mix(17L, graph.size);
        h = mixAll(h, graph.near, graph.size);
        h = mixAll(h, ordering.places, ordering.length());
        h = mix(h, table.width);
        h = mixAll(h, table.rows, TABLE_ROWS);
        return mixAll(h, ordering.drafts, ordering.draftSize);
    }

    private static long mix(long h, int v) {
        return 31L * h + v;
    }

    private static long mixAll(long h, int[] values, int n) {
        long mixed = h;
        for (int i = 0; i < n && i < values.length; i++) {
            mixed = mix(mixed, values[i]);
        }
        return mixed;
    }

    private int found(int which) {
        latest = which;
        timesFound[which]++;
        return FINDING;
    }

    private void startGraph(int n) {
        graph.restart(n);
        ordering.drop();
        ordering.keepDrafted(graph.all());
    }

    private boolean isKind(int a, int kind) {
        int around = graph.near[a];
        switch (kind) {
            case PLAIN:
                return true;
            case TIGHT:
                return graph.isClique(around);
            case LONE:
                return around == 0;
            default:
                return (around | 1 << a) == graph.all() && !graph.isClique(around);
        }
    }

    private void bringSpans() {
        if (spans.madeFor == graph.version) {
            return;
        }
        spans.madeFor = graph.version;
        cliques.bring(graph);
        // A graph with more great cliques than nodes is never sound, and so it has no spans.
        if (cliques.size > MOST_NODES) {
            spans.refuse();
            return;
        }
        spans.restart(cliques.size);
        for (int v = 0; v < graph.size; v++) {
            spans.addRow(cliques.with(v));
        }
        spans.findFirst();
    }

    private void bringSeats() {
        if (seats.madeFor == table.version) {
            return;
        }
        seats.madeFor = table.version;
        seats.restart(table.width);
        for (int r = 0; r < TABLE_ROWS; r++) {
            if (table.rows[r] != MISSING) {
                seats.addRow(table.rows[r]);
            }
        }
        seats.findFirst();
        seats.countWays();
    }

    private static boolean in(int set, int v) {
        return (set >> v & 1) != 0;
    }

    private static int withoutLeast(int set) {
        return set & set - 1;
    }

    // Each pass is done with one node, and no node comes back: so as many passes as nodes are enough.
    private static int reached(int[] near, int from, int within) {
        int met = 1 << from;
        int fresh = met;
        for (int pass = 0; pass < MOST_NODES && fresh != 0; pass++) {
            int more = near[Integer.numberOfTrailingZeros(fresh)] & within & ~met;
            met |= more;
            fresh = withoutLeast(fresh) | more;
        }
        return met;
    }

    private static final class Graph {
        private final int[] near = new int[MOST_NODES];
        private int size = 0;
        // What is worked out of a graph is kept until this number is another one.
        private int version = 0;

        private boolean has(int a) {
            return a >= 0 && a < size;
        }

        private int all() {
            return (1 << size) - 1;
        }

        private boolean touches(int a, int b) {
            return in(near[a], b);
        }

        private void restart(int n) {
            size = n;
            Arrays.fill(near, 0);
            version++;
        }

        private void set(int a, int b, boolean is) {
            near[a] = is ? near[a] | 1 << b : near[a] & ~(1 << b);
            near[b] = is ? near[b] | 1 << a : near[b] & ~(1 << a);
            version++;
        }

        private void joinAll(int set) {
            for (int v = 0; v < size; v++) {
                if (in(set, v)) {
                    near[v] |= set & ~(1 << v);
                }
            }
            version++;
        }

        private void invert() {
            for (int v = 0; v < size; v++) {
                near[v] = all() & ~near[v] & ~(1 << v);
            }
            version++;
        }

        private int pairs() {
            int ends = 0;
            for (int v = 0; v < size; v++) {
                ends += Integer.bitCount(near[v]);
            }
            return ends / 2;
        }

        private boolean isClique(int set) {
            for (int v = 0; v < size; v++) {
                if (in(set, v) && (set & ~near[v]) != 1 << v) {
                    return false;
                }
            }
            return true;
        }

        private boolean isLoose(int set) {
            for (int v = 0; v < size; v++) {
                if (in(set, v) && (set & near[v]) != 0) {
                    return false;
                }
            }
            return true;
        }

        private int around(int set) {
            int met = 0;
            int rest = set;
            for (int pass = 0; pass < size && rest != 0; pass++) {
                met |= near[Integer.numberOfTrailingZeros(rest)];
                rest = withoutLeast(rest);
            }
            return met & ~set;
        }

        private int reach(int from, int within) {
            return reached(near, from, within);
        }
    }

    /** What is left of a graph after each step of its going; a search can go back to any step. */
    private static final class Going {
        private final int[][] near = new int[MOST_NODES + 1][MOST_NODES];
        private int size = 0;

        private void start(Graph graph) {
            size = graph.size;
            System.arraycopy(graph.near, 0, near[0], 0, MOST_NODES);
        }

        private void leave(int step, int v) {
            int[] from = near[step];
            int[] to = near[step + 1];
            System.arraycopy(from, 0, to, 0, MOST_NODES);
            to[v] = 0;
            int rest = from[v];
            for (int pass = 0; pass < size && rest != 0; pass++) {
                int u = Integer.numberOfTrailingZeros(rest);
                to[u] = (from[u] | from[v]) & ~(1 << u) & ~(1 << v);
                rest = withoutLeast(rest);
            }
        }

        private int width(int step, int v) {
            return Integer.bitCount(near[step][v]);
        }

        private int lack(int step, int v) {
            int[] now = near[step];
            int around = now[v];
            int ends = 0;
            int rest = around;
            for (int pass = 0; pass < size && rest != 0; pass++) {
                ends += Integer.bitCount(around & ~now[Integer.numberOfTrailingZeros(rest)]) - 1;
                rest = withoutLeast(rest);
            }
            return ends / 2;
        }

        private boolean isTight(int step, int v) {
            int[] now = near[step];
            int around = now[v];
            int rest = around;
            for (int pass = 0; pass < size && rest != 0; pass++) {
                int u = Integer.numberOfTrailingZeros(rest);
                if ((around & ~now[u]) != 1 << u) {
                    return false;
                }
                rest = withoutLeast(rest);
            }
            return true;
        }

        /** The least tight node of those left, or -1. */
        private int leastTight(int step, int left) {
            for (int v = 0; v < size; v++) {
                if (in(left, v) && isTight(step, v)) {
                    return v;
                }
            }
            return -1;
        }

        // Asked where one pair x, y alone is missing around v. If a way outside leads from x to y, v may go first: in a
        // filled graph without that pair v is joined to all of a shortest such way, or it would be in a hole. Merge v
        // into x there: that makes no hole and joins x to y, and of each two edges from v and x to one node it leaves
        // one, for the others around v and for the way's first node; so it costs no more than to fill the pair in.
        private boolean hasWayOutside(int step, int v, int left) {
            int[] now = near[step];
            int around = now[v];
            int pair = 0;
            for (int u = 0; u < size; u++) {
                if (in(around, u) && (around & ~now[u]) != 1 << u) {
                    pair |= 1 << u;
                }
            }
            int outside = left & ~around & ~(1 << v);
            return (reached(now, Integer.numberOfTrailingZeros(pair), outside | pair) & pair) == pair;
        }

        private int price(int rule, int step, int v) {
            switch (rule) {
                case BY_TIGHT:
                    return isTight(step, v) ? 0 : 1;
                case BY_JOINED:
                    return width(step, v);
                default:
                    return lack(step, v);
            }
        }

        private int cheapest(int rule, int step, int left) {
            int best = 0;
            int bestPrice = NO_PRICE;
            for (int v = 0; v < size; v++) {
                int price = in(left, v) ? price(rule, step, v) : NO_PRICE;
                if (price < bestPrice) {
                    best = v;
                    bestPrice = price;
                }
            }
            return best;
        }

        // Taking tight nodes is never wrong: a graph without holes keeps one as long as it has nodes.
        private boolean goesWithoutFill(Graph graph) {
            start(graph);
            int left = graph.all();
            for (int step = 0; step < size; step++) {
                int v = leastTight(step, left);
                if (v < 0) {
                    return false;
                }
                leave(step, v);
                left &= ~(1 << v);
            }
            return true;
        }
    }

    /** THE ORDER and THE DRAFT. */
    private static final class Ordering {
        private final Going going = new Going();
        private final LeastSearch search = new LeastSearch();
        private final int[] places = new int[MOST_NODES];
        private final int[] drafts = new int[MOST_NODES];
        private int draftSize = 0;
        private int size = 0;
        private boolean there = false;
        private int filled = 0;
        private int width = 0;

        private int length() {
            return there ? size : 0;
        }

        private void drop() {
            there = false;
        }

        private boolean drafted(int a) {
            return in(draftSet(), a);
        }

        private int draftSet() {
            int set = 0;
            for (int i = 0; i < draftSize; i++) {
                set |= 1 << drafts[i];
            }
            return set;
        }

        private void addToDraft(int a) {
            if (draftSize < MOST_NODES) {
                drafts[draftSize] = a;
                draftSize++;
            }
        }

        // THE DRAFT has NODES alone: what is none any more leaves it. No promise takes the others out.
        private void keepDrafted(int nodes) {
            int kept = 0;
            for (int i = 0; i < draftSize; i++) {
                if (in(nodes, drafts[i])) {
                    drafts[kept] = drafts[i];
                    kept++;
                }
            }
            draftSize = kept;
        }

        private void begin(Graph graph) {
            going.start(graph);
            there = true;
            size = graph.size;
            filled = 0;
            width = 0;
        }

        private void place(int step, int v) {
            places[step] = v;
            filled += going.lack(step, v);
            width = Math.max(width, going.width(step, v));
            going.leave(step, v);
        }

        private void followDraft(Graph graph) {
            begin(graph);
            for (int step = 0; step < size; step++) {
                place(step, drafts[step]);
            }
        }

        private void followRule(Graph graph, int rule) {
            begin(graph);
            int left = graph.all();
            for (int step = 0; step < size; step++) {
                int v = going.cheapest(rule, step, left);
                place(step, v);
                left &= ~(1 << v);
            }
        }

        private void followLeast(Graph graph, int what) {
            begin(graph);
            int total = search.begin(graph, what);
            int gone = 0;
            for (int step = 0; step < size; step++) {
                int bound = what == LEAST_FILL ? total - filled : total;
                int v = search.letFirstGo(gone, step, bound);
                place(step, v);
                gone |= 1 << v;
            }
        }

        private void fillIn(Graph graph) {
            going.start(graph);
            for (int step = 0; step < size; step++) {
                graph.joinAll(going.near[step][places[step]]);
                going.leave(step, places[step]);
            }
        }
    }

    /** What is left depends on which nodes are gone and not on their order: so the least is noted for each set of those gone. */
    private static final class LeastSearch {
        private static final int UNKNOWN = -1;

        private final Going going = new Going();
        private final int[] notes = new int[1 << MOST_NODES];
        private final int[][] prices = new int[MOST_NODES][MOST_NODES];
        private int rule = 0;
        private int all = 0;
        private int size = 0;

        /** Answers the least over all orders. */
        private int begin(Graph graph, int what) {
            going.start(graph);
            rule = what == LEAST_FILL ? BY_FILL : BY_JOINED;
            all = graph.all();
            size = graph.size;
            Arrays.fill(notes, 0, all + 1, UNKNOWN);
            notes[all] = 0;
            return leastFrom(this, 0, 0);
        }

        /** Lets the first node go with which all to come stays within the bound, and answers it. */
        private int letFirstGo(int gone, int step, int bound) {
            for (int v = 0; v < size; v++) {
                int price = in(gone, v) ? NO_PRICE : going.price(rule, step, v);
                if (price <= bound) {
                    going.leave(step, v);
                    if (both(price, leastFrom(this, gone | 1 << v, step + 1)) <= bound) {
                        return v;
                    }
                }
            }
            return 0;
        }

        private int both(int price, int later) {
            return rule == BY_FILL ? price + later : Math.max(price, later);
        }

        // The likeliest node is tried first: with a low price found, most others need no look at what comes after them.
        private static int leastFrom(LeastSearch s, int gone, int step) {
            if (step >= s.size || s.notes[gone] != UNKNOWN) {
                return s.notes[gone];
            }
            int left = s.all & ~gone;
            int cheap = s.priceAll(step, left);
            int sure = s.neverWrong(step, left, cheap);
            int first = sure >= 0 ? sure : cheap;
            int tries = sure >= 0 ? 1 : s.size + 1;
            int[] price = s.prices[step];
            int best = NO_PRICE;
            // No fill is less than that of the cheapest node, and no width is less than the fewest joined to one.
            for (int i = 0; i < tries && best > price[cheap]; i++) {
                int v = i == 0 ? first : i - 1;
                int then = gone | 1 << v;
                if (price[v] < best) {
                    if (s.notes[then] == UNKNOWN) {
                        s.going.leave(step, v);
                    }
                    best = Math.min(best, s.both(price[v], leastFrom(s, then, step + 1)));
                }
            }
            s.notes[gone] = best;
            return best;
        }

        /** Notes what each node costs that is left, and answers the cheapest. */
        private int priceAll(int step, int left) {
            int[] price = prices[step];
            int cheap = 0;
            for (int v = 0; v < size; v++) {
                price[v] = in(left, v) ? going.price(rule, step, v) : NO_PRICE;
                cheap = price[v] < price[cheap] ? v : cheap;
            }
            return cheap;
        }

        /** A node that may go first without loss, or -1. */
        private int neverWrong(int step, int left, int cheap) {
            if (rule == BY_JOINED) {
                return going.leastTight(step, left);
            }
            int low = prices[step][cheap];
            for (int v = cheap; v < size && low == 1; v++) {
                if (prices[step][v] == 1 && going.hasWayOutside(step, v, left)) {
                    return v;
                }
            }
            return low == 0 ? cheap : -1;
        }
    }

    /** THE HOLE; its length is 0 if there is none. */
    private static final class Ring {
        private static final int SHORTEST = 4;

        private final Going going = new Going();
        private final int[] path = new int[MOST_NODES];
        private int length = 0;
        private int madeFor = -1;

        private void bring(Graph graph) {
            if (madeFor == graph.version) {
                return;
            }
            madeFor = graph.version;
            length = going.goesWithoutFill(graph) ? 0 : lookFor(graph);
        }

        private int lookFor(Graph graph) {
            for (int goal = SHORTEST; goal <= graph.size; goal++) {
                for (int v = 0; v < graph.size; v++) {
                    path[0] = v;
                    if (closes(this, graph, goal, 1, 0)) {
                        return goal;
                    }
                }
            }
            return 0;
        }

        // Tries the lesser nodes first, so that the first ring that closes is the first one of its length.
        private static boolean closes(Ring ring, Graph graph, int goal, int at, int barred) {
            if (at >= goal) {
                return true;
            }
            int open = ring.nextOnes(graph, goal, at) & ~barred;
            int behind = at == 1 ? 0 : graph.near[ring.path[at - 1]];
            for (int v = 0; v < graph.size; v++) {
                if (in(open, v)) {
                    ring.path[at] = v;
                    if (closes(ring, graph, goal, at + 1, barred | behind | 1 << v)) {
                        return true;
                    }
                }
            }
            return false;
        }

        private int nextOnes(Graph graph, int goal, int at) {
            int first = path[0];
            int set = graph.near[path[at - 1]] & above(first);
            if (at == 1) {
                return set;
            }
            if (at == goal - 1) {
                return set & graph.near[first] & above(path[1]);
            }
            return set & ~graph.near[first];
        }

        private static int above(int v) {
            return ~((2 << v) - 1);
        }
    }

    /** The great cliques of a graph or, turned, its greatest sets without edges; and the tree of the cliques. */
    private static final class Cliques {
        private final boolean turned;
        private final int[] near = new int[MOST_NODES];
        private final int[] sets = new int[MOST_CLIQUES];
        private final int[] parents = new int[MOST_NODES];
        private final int[] shared = new int[MOST_NODES];
        private int size = 0;
        private int madeFor = -1;
        private int treeMadeFor = -1;

        private Cliques(boolean turned) {
            this.turned = turned;
        }

        private boolean has(int i) {
            return i >= 0 && i < size;
        }

        private void bring(Graph graph) {
            if (madeFor == graph.version) {
                return;
            }
            madeFor = graph.version;
            size = 0;
            for (int v = 0; v < graph.size; v++) {
                near[v] = turned ? graph.all() & ~graph.near[v] & ~(1 << v) : graph.near[v];
            }
            gather(this, 0, graph.all(), 0, 0);
        }

        // Leaves the greatest open node out before it takes it in: so the sets come by their bits, the least first.
        private static void gather(Cliques c, int set, int open, int shut, int depth) {
            if (depth > MOST_NODES || c.canNotBeGreat(open, shut)) {
                return;
            }
            if (open == 0) {
                c.keep(set);
                return;
            }
            int v = 31 - Integer.numberOfLeadingZeros(open);
            int rest = open & ~(1 << v);
            gather(c, set, rest, shut | 1 << v, depth + 1);
            gather(c, set | 1 << v, rest & c.near[v], shut & c.near[v], depth + 1);
        }

        // A node that was left out and is joined to all that may still come in would always be missing.
        private boolean canNotBeGreat(int open, int shut) {
            for (int v = 0; v < MOST_NODES; v++) {
                if (in(shut, v) && (open & ~near[v]) == 0) {
                    return true;
                }
            }
            return false;
        }

        private void keep(int set) {
            if (set != 0 && size < MOST_CLIQUES) {
                sets[size] = set;
                size++;
            }
        }

        private int widest() {
            int best = 0;
            for (int i = 0; i < size; i++) {
                if (Integer.bitCount(sets[i]) > Integer.bitCount(best)) {
                    best = sets[i];
                }
            }
            return best;
        }

        /** The cliques that have a node; of the first twelve, which are all where this is asked. */
        private int with(int v) {
            int those = 0;
            for (int i = 0; i < size && i < MOST_NODES; i++) {
                if (in(sets[i], v)) {
                    those |= 1 << i;
                }
            }
            return those;
        }

        private void bringTree() {
            if (treeMadeFor == madeFor) {
                return;
            }
            treeMadeFor = madeFor;
            parents[0] = NONE;
            shared[0] = 0;
            int tied = 1;
            for (int i = 1; i < size && i < MOST_NODES; i++) {
                tied |= 1 << tieNext(tied);
            }
        }

        private int tieNext(int tied) {
            int most = -1;
            int next = 0;
            for (int p = 0; p < size && p < MOST_NODES; p++) {
                for (int c = 0; c < size && c < MOST_NODES; c++) {
                    int both = Integer.bitCount(sets[p] & sets[c]);
                    if (in(tied, p) && !in(tied, c) && both > most) {
                        most = both;
                        next = c;
                        parents[c] = p;
                        shared[c] = sets[p] & sets[c];
                    }
                }
            }
            return next;
        }
    }

    /** THE COLOURS. */
    private static final class Paint {
        private final int[] hues = new int[MOST_NODES];
        private final int[] worn = new int[MOST_NODES];
        private int most = 0;
        private int madeFor = -1;

        private void bring(Graph graph, int atLeast) {
            if (madeFor == graph.version) {
                return;
            }
            madeFor = graph.version;
            for (int tried = atLeast; tried <= graph.size; tried++) {
                Arrays.fill(worn, 0);
                most = tried;
                if (paints(this, graph, 0, 0)) {
                    return;
                }
            }
        }

        // A colour beyond the next new one is never tried: the next new one would do as well and comes first.
        private static boolean paints(Paint p, Graph graph, int v, int used) {
            if (v >= graph.size) {
                return true;
            }
            for (int hue = 0; hue <= used && hue < p.most; hue++) {
                if ((p.worn[hue] & graph.near[v]) == 0) {
                    p.worn[hue] |= 1 << v;
                    p.hues[v] = hue;
                    if (paints(p, graph, v + 1, Math.max(used, hue + 1))) {
                        return true;
                    }
                    p.worn[hue] &= ~(1 << v);
                }
            }
            return false;
        }
    }

    /** The PARTS between two nodes. */
    private static final class Parts {
        private final int[] sets = new int[MOST_PARTS];
        private int size = 0;
        private int madeFor = -1;
        private int one = -1;
        private int other = -1;

        private void bring(Graph graph, int a, int b) {
            if (madeFor == graph.version && one == a && other == b) {
                return;
            }
            madeFor = graph.version;
            one = a;
            other = b;
            size = 0;
            int others = graph.all() & ~(1 << a) & ~(1 << b);
            // What is joined to both is in every part.
            int needed = graph.near[a] & graph.near[b];
            for (int set = needed; set <= others; set++) {
                if ((set & ~others) == 0 && (set & needed) == needed && isPart(graph, set)) {
                    keep(set);
                }
            }
        }

        // None can be left out exactly if each has one joined to it on either side.
        private boolean isPart(Graph graph, int set) {
            int within = graph.all() & ~set;
            int side = graph.reach(one, within);
            return !in(side, other) && graph.around(side) == set
                    && graph.around(graph.reach(other, within)) == set;
        }

        private void keep(int set) {
            if (size < MOST_PARTS) {
                sets[size] = set;
                size++;
            }
        }
    }

    /** The first FAR ones. */
    private static final class FarThree {
        // For each node and each other one: what that one reaches without the first and those joined to it.
        private final int[][] clear = new int[MOST_NODES][MOST_NODES];
        private final int[] three = new int[3];
        private boolean there = false;
        private int madeFor = -1;

        private void bring(Graph graph) {
            if (madeFor == graph.version) {
                return;
            }
            madeFor = graph.version;
            for (int v = 0; v < graph.size; v++) {
                clearOf(graph, v);
            }
            there = lookFor(graph.size);
        }

        private void clearOf(Graph graph, int v) {
            int within = graph.all() & ~graph.near[v] & ~(1 << v);
            for (int u = 0; u < graph.size; u++) {
                clear[v][u] = in(within, u) ? graph.reach(u, within) : 0;
            }
        }

        private boolean lookFor(int n) {
            for (int a = 0; a < n; a++) {
                for (int b = a + 1; b < n; b++) {
                    for (int c = b + 1; c < n; c++) {
                        if (in(clear[a][b], c) && in(clear[b][a], c) && in(clear[c][a], b)) {
                            three[0] = a;
                            three[1] = b;
                            three[2] = c;
                            return true;
                        }
                    }
                }
            }
            return false;
        }
    }

    /** Orders of columns in which the columns of each row stand side by side: SEATINGS, and SPANS with cliques for columns. */
    private static final class Benches {
        private static final int UNTRIED = 0, HOPELESS = 1;

        private final int[] notes;
        private final int[] rows = new int[Math.max(MOST_NODES, TABLE_ROWS)];
        private final int[] places;
        private int rowCount = 0;
        private int width = 0;
        private int ways = 0;
        private boolean seated = false;
        private int madeFor = -1;

        private Benches(int mostColumns) {
            notes = new int[1 << mostColumns];
            places = new int[mostColumns];
        }

        private void restart(int columns) {
            width = columns;
            rowCount = 0;
        }

        private void refuse() {
            restart(0);
            seated = false;
        }

        private void addRow(int set) {
            if (rowCount < rows.length) {
                rows[rowCount] = set;
                rowCount++;
            }
        }

        private void findFirst() {
            Arrays.fill(notes, 0, 1 << width, UNTRIED);
            seated = seatsRest(this, 0, 0);
        }

        // Who may come next hangs on who sits already, not on how they sit: so a set without a way on is noted.
        private static boolean seatsRest(Benches b, int sitting, int place) {
            if (place >= b.width) {
                return true;
            }
            if (b.notes[sitting] == HOPELESS) {
                return false;
            }
            int next = b.mayCome(sitting);
            for (int c = 0; c < b.width; c++) {
                if (in(next, c)) {
                    b.places[place] = c;
                    if (seatsRest(b, sitting | 1 << c, place + 1)) {
                        return true;
                    }
                }
            }
            b.notes[sitting] = HOPELESS;
            return false;
        }

        // A row that has begun goes on until it is whole.
        private int mayCome(int sitting) {
            int next = (1 << width) - 1 & ~sitting;
            for (int r = 0; r < rowCount; r++) {
                if ((rows[r] & sitting) != 0 && (rows[r] & ~sitting) != 0) {
                    next &= rows[r];
                }
            }
            return next;
        }

        private void countWays() {
            int whole = (1 << width) - 1;
            Arrays.fill(notes, 0, whole + 1, 0);
            notes[0] = 1;
            for (int sitting = 0; sitting < whole; sitting++) {
                int next = notes[sitting] == 0 ? 0 : mayCome(sitting);
                for (int c = 0; c < width; c++) {
                    if (in(next, c)) {
                        notes[sitting | 1 << c] += notes[sitting];
                    }
                }
            }
            ways = notes[whole];
        }

        private int firstOf(int r) {
            for (int i = 0; i < width; i++) {
                if (in(rows[r], places[i])) {
                    return i;
                }
            }
            return NONE;
        }

        private int lastOf(int r) {
            int last = NONE;
            for (int i = 0; i < width; i++) {
                if (in(rows[r], places[i])) {
                    last = i;
                }
            }
            return last;
        }
    }

    /** THE TABLE. */
    private static final class Table {
        private final int[] rows = new int[TABLE_ROWS];
        private int width = 0;
        private int version = 0;

        private Table() {
            Arrays.fill(rows, MISSING);
        }

        private void restart(int c) {
            width = c;
            Arrays.fill(rows, MISSING);
            version++;
        }

        private boolean hasPlace(int r) {
            return r >= 0 && r < TABLE_ROWS;
        }

        /** Whether n rows stand from r on; none of them may stand behind the last row, too. */
        private boolean hasRun(int r, int n) {
            return r >= 0 && n >= 0 && r <= TABLE_ROWS && n <= TABLE_ROWS - r;
        }

        private void put(int r, int bits) {
            rows[r] = bits;
            version++;
        }

        private void move(int r, int to, int n) {
            System.arraycopy(rows, r, rows, to, n);
            version++;
        }

        private int present() {
            int there = 0;
            for (int r = 0; r < TABLE_ROWS; r++) {
                if (rows[r] != MISSING) {
                    there++;
                }
            }
            return there;
        }
    }
}
