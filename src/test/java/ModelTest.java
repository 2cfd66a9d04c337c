import java.util.Random;

/** Runs of calls, most of them sensible and some wild, answered by the class and by the plain model. */
public final class ModelTest {
    private static final int[] WILD = {Integer.MIN_VALUE, -1000, -2, -1, 12, 13, 31, 32, 33, 64, 4095, 4096, Integer.MAX_VALUE};
    private static final int CALLS = 37;

    private final Check check;
    private final Random random;
    private final int mostNodes;
    private final int mostColumns;
    private HolelessHouse x;
    private PlainModel m;
    private final StringBuilder run = new StringBuilder();

    private ModelTest(Check check, long seed, int mostNodes, int mostColumns) {
        this.check = check;
        // Seeds that stand side by side begin alike in this source.
        this.random = new Random(seed * 0x9E3779B97F4A7C15L);
        this.mostNodes = mostNodes;
        this.mostColumns = mostColumns;
    }

    public static void main(String[] args) {
        Check check = new Check("ModelTest");
        for (int seed = 0; seed < 3000; seed++) new ModelTest(check, seed, 6, 5).freeRun(200);
        for (int seed = 0; seed < 300; seed++) new ModelTest(check, 50_000 + seed, 8, 6).freeRun(100);
        for (int seed = 0; seed < 800; seed++) new ModelTest(check, 100_000 + seed, 7, 6).graphRun();
        for (int seed = 0; seed < 24; seed++) new ModelTest(check, 200_000 + seed, 12, 8).graphRun();
        for (int seed = 0; seed < 600; seed++) new ModelTest(check, 300_000 + seed, 9, 0).leastRun();
        for (int n = 4; n <= 12; n++) new ModelTest(check, n, n, 0).ringRuns();
        for (int n = 1; n <= 5; n++) new ModelTest(check, n, n, 0).everyGraph();
        check.end();
    }

    private int wildOr(int bound) {
        if (random.nextInt(25) == 0) return WILD[random.nextInt(WILD.length)];
        return random.nextInt(Math.max(1, bound + 1)) - random.nextInt(12) / 11;
    }

    private void due(String call, long got, long want) {
        run.append(call).append("; ");
        boolean before = check.failed();
        check.due(call, got, want);
        if (!before && check.failed()) System.out.println("first wrong run: " + run);
    }

    private void start() {
        x = new HolelessHouse();
        m = new PlainModel();
        run.setLength(0);
    }

    private void freeRun(int calls) {
        start();
        if (random.nextInt(5) > 0) nodesCall();
        if (random.nextInt(5) > 0) columnsCall();
        for (int i = 0; i < calls; i++) call(random.nextInt(CALLS));
        due("digest()", x.digest(), m.digest());
    }

    private void nodesCall() {
        int k = wildOr(mostNodes);
        if (k > mostNodes && k <= 12) k = mostNodes;
        due("nodes(" + k + ")", x.nodes(k), m.nodes(k));
        if (random.nextInt(3) > 0) randomEdges();
    }

    private void randomEdges() {
        int share = 10 + random.nextInt(85);
        for (int a = 0; a < m.n; a++) for (int b = 0; b < a; b++) {
            if (random.nextInt(100) < share) joinCall(a, b, true);
        }
    }

    private void joinCall(int a, int b, boolean is) {
        due("join(" + a + ", " + b + ", " + is + ")", x.join(a, b, is), m.join(a, b, is));
    }

    private void columnsCall() {
        int k = wildOr(mostColumns);
        if (k > mostColumns && k <= 8) k = mostColumns;
        due("columns(" + k + ")", x.columns(k), m.columns(k));
        for (int r = random.nextInt(4); r > 0; r--) rowCall(random.nextInt(12), random.nextInt(1 << m.c));
    }

    private void rowCall(int r, int bits) {
        due("row(" + r + ", " + bits + ")", x.row(r, bits), m.row(r, bits));
    }

    private void draftAll() {
        int from = random.nextInt(Math.max(1, m.n));
        int step = random.nextBoolean() ? 1 : Math.max(1, m.n - 1);
        for (int i = 0; i < m.n; i++) draftCall((from + i * step) % m.n);
    }

    private void draftCall(int a) {
        due("draft(" + a + ")", x.draft(a), m.draft(a));
    }

    private void call(int which) {
        if (which < 9) graphCall(which);
        else if (which < 16) orderCall(which);
        else if (which < 26) setCall(which);
        else tableCall(which);
    }

    private void graphCall(int which) {
        int a = wildOr(m.n);
        int b = wildOr(m.n);
        switch (which) {
            case 0: if (random.nextInt(3) == 0) nodesCall(); break;
            case 1: joinCall(a, b, random.nextInt(4) > 0); break;
            case 2: due("joined(" + a + ")", x.joined(a), m.joined(a)); break;
            case 3: due("kind(" + a + ")", x.kind(a), m.kind(a)); break;
            case 4: int k = wildOr(4); due("degree(" + a + ", " + k + ")", x.degree(a, k), m.degree(a, k)); break;
            case 5: due("sound()", x.sound(), m.sound()); break;
            case 6: due("hole(" + a + ")", x.hole(a), m.hole(a)); break;
            case 7: if (random.nextInt(3) == 0) due("fromTable()", x.fromTable(), m.fromTable()); break;
            default: if (random.nextInt(3) == 0) due("turn()", x.turn(), m.turn()); break;
        }
    }

    private void orderCall(int which) {
        int a = wildOr(m.n);
        int what = wildOr(3);
        switch (which) {
            case 9: if (random.nextBoolean()) draftCall(a); else draftAll(); break;
            case 10: due("take()", x.take(), m.take()); break;
            case 11: due("rule(" + what + ")", x.rule(what), m.rule(what)); break;
            case 12: due("least(" + what + ")", x.least(what), m.least(what)); break;
            case 13: due("order(" + a + ")", x.order(a), m.order(a)); break;
            case 14: due("about(" + what + ")", x.about(what), m.about(what)); break;
            default: if (random.nextInt(3) == 0) due("fill()", x.fill(), m.fill()); break;
        }
    }

    private void setCall(int which) {
        int a = wildOr(m.n);
        int b = wildOr(m.n);
        int i = wildOr(3);
        boolean end = random.nextBoolean();
        switch (which) {
            case 16: due("clique(" + a + ")", x.clique(a), m.clique(a)); break;
            case 17: due("greatest()", x.greatest(), m.greatest()); break;
            case 18: int bits = wildOr(1 << m.n); due("sort(" + bits + ")", x.sort(bits), m.sort(bits)); break;
            case 19: due("colour(" + a + ")", x.colour(a), m.colour(a)); break;
            case 20: due("apart()", x.apart(), m.apart()); break;
            case 21: due("tree(" + a + ", " + i / 2 + ")", x.tree(a, i / 2), m.tree(a, i / 2)); break;
            case 22: due("part(" + a + ", " + b + ", " + i + ")", x.part(a, b, i), m.part(a, b, i)); break;
            case 23: due("line(" + a + ")", x.line(a), m.line(a)); break;
            case 24: due("span(" + a + ", " + end + ")", x.span(a, end), m.span(a, end)); break;
            default: due("far(" + i + ")", x.far(i), m.far(i)); break;
        }
    }

    private void tableCall(int which) {
        int r = wildOr(12);
        int to = wildOr(12);
        int k = wildOr(5);
        switch (which) {
            case 26: if (random.nextInt(3) == 0) columnsCall(); break;
            case 27: rowCall(r, wildOr(1 << m.c)); break;
            case 28: due("told(" + r + ")", x.told(r), m.told(r)); break;
            case 29: due("tear(" + r + ")", x.tear(r), m.tear(r)); break;
            case 30: due("copy(" + r + ", " + to + ", " + k + ")", x.copy(r, to, k), m.copy(r, to, k)); break;
            case 31: due("seatings()", x.seatings(), m.seatings()); break;
            case 32: due("seat(" + k + ")", x.seat(k), m.seat(k)); break;
            case 33: due("count(" + k + ")", x.count(k), m.count(k)); break;
            case 34: due("finding()", x.finding(), m.finding()); break;
            case 35: due("findings(" + k + ")", x.findings(k), m.findings(k)); break;
            default: due("digest()", x.digest(), m.digest()); break;
        }
    }

    /** One graph and one table, of which everything is asked. */
    private void graphRun() {
        start();
        int k = mostNodes - random.nextInt(2);
        due("nodes(" + k + ")", x.nodes(k), m.nodes(k));
        if (random.nextBoolean()) randomEdges(); else randomSpans();
        if (random.nextInt(4) == 0) due("turn()", x.turn(), m.turn());
        askAll();
        int what = random.nextInt(3);
        due("rule(" + what + ")", x.rule(what), m.rule(what));
        due("fill()", x.fill(), m.fill());
        askAll();
        columnsCall();
        due("seatings()", x.seatings(), m.seatings());
        for (int i = -1; i <= 8; i++) due("seat(" + i + ")", x.seat(i), m.seat(i));
    }

    /** The least over all orders, and the first order that has it. */
    private void leastRun() {
        start();
        int k = mostNodes - random.nextInt(3);
        due("nodes(" + k + ")", x.nodes(k), m.nodes(k));
        randomEdges();
        askLeast();
    }

    /** Rings, and rings with the same ways across from each node; and these turned. */
    private void ringRuns() {
        for (int across = 1; across <= mostNodes / 2; across++) {
            start();
            due("nodes(" + mostNodes + ")", x.nodes(mostNodes), m.nodes(mostNodes));
            for (int v = 0; v < m.n; v++) {
                joinCall(v, (v + 1) % m.n, true);
                joinCall(v, (v + across) % m.n, true);
            }
            askLeast();
            for (int i = 0; i <= m.n; i++) due("hole(" + i + ")", x.hole(i), m.hole(i));
            due("turn()", x.turn(), m.turn());
            askLeast();
        }
    }

    private void everyGraph() {
        for (int pairs = 0; pairs < 1 << mostNodes * (mostNodes - 1) / 2; pairs++) {
            start();
            due("nodes(" + mostNodes + ")", x.nodes(mostNodes), m.nodes(mostNodes));
            int rest = pairs;
            for (int a = 0; a < mostNodes; a++) for (int b = 0; b < a; b++) {
                if ((rest & 1) == 1) joinCall(a, b, true);
                rest >>= 1;
            }
            askAll();
        }
    }

    private void askLeast() {
        for (int what = 0; what < 2; what++) {
            due("least(" + what + ")", x.least(what), m.least(what));
            due("digest()", x.digest(), m.digest());
        }
    }

    /** Nodes that stand for spans on a line, so that there are spans to be told. */
    private void randomSpans() {
        int[] from = new int[m.n];
        int[] to = new int[m.n];
        for (int v = 0; v < m.n; v++) {
            from[v] = random.nextInt(20);
            to[v] = from[v] + random.nextInt(8);
        }
        for (int a = 0; a < m.n; a++) for (int b = 0; b < a; b++) {
            if (from[a] <= to[b] && from[b] <= to[a]) joinCall(a, b, true);
        }
    }

    private void askAll() {
        due("sound()", x.sound(), m.sound());
        due("greatest()", x.greatest(), m.greatest());
        due("apart()", x.apart(), m.apart());
        for (int i = -1; i < 3; i++) due("far(" + i + ")", x.far(i), m.far(i));
        int cliques = m.cliques().size();
        for (int i = -1; i <= cliques; i++) {
            due("clique(" + i + ")", x.clique(i), m.clique(i));
            due("line(" + i + ")", x.line(i), m.line(i));
            if (i > 3 && m.sound() == 0) continue;
            due("tree(" + i + ", 0)", x.tree(i, 0), m.tree(i, 0));
            due("tree(" + i + ", 1)", x.tree(i, 1), m.tree(i, 1));
        }
        for (int a = -1; a <= m.n; a++) {
            due("kind(" + a + ")", x.kind(a), m.kind(a));
            due("hole(" + a + ")", x.hole(a), m.hole(a));
            due("colour(" + a + ")", x.colour(a), m.colour(a));
            due("span(" + a + ", false)", x.span(a, false), m.span(a, false));
            due("span(" + a + ", true)", x.span(a, true), m.span(a, true));
        }
        askParts();
        askLeast();
        for (int rule = 0; rule < 3; rule++) {
            due("rule(" + rule + ")", x.rule(rule), m.rule(rule));
            due("about(1)", x.about(1), m.about(1));
            due("digest()", x.digest(), m.digest());
        }
    }

    private void askParts() {
        for (int tries = 0; tries < 3; tries++) {
            int a = random.nextInt(m.n);
            int b = random.nextInt(m.n);
            int parts = m.part(a, b, -1);
            due("part(" + a + ", " + b + ", -1)", x.part(a, b, -1), parts);
            if (parts < 0) continue;
            java.util.List<Integer> sets = m.parts(a, b);
            for (int i = 0; i < parts; i++) due("part(" + a + ", " + b + ", " + i + ")", x.part(a, b, i), sets.get(i));
            due("part(" + a + ", " + b + ", " + parts + ")", x.part(a, b, parts), -9);
        }
    }
}
