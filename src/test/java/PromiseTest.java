/** Each promise of the document by itself: ordinary inputs, the edges that it names, and wrong inputs. */
public final class PromiseTest {
    private static final int BAD = -1, FINDING = -3, STATE = -4, NONE = -9;
    private static final int LOW = Integer.MIN_VALUE, HIGH = Integer.MAX_VALUE;

    private static final Check check = new Check("PromiseTest");

    public static void main(String[] args) {
        constants();
        p1newObject();
        graphPromises();
        orderPromises();
        setPromises();
        tablePromises();
        toldPromises();
        check.end();
    }

    private static void graphPromises() {
        p2nodes();
        p3join();
        p4joined();
        p5kind();
        p6degree();
        p7sound();
        p8hole();
        p9fromTable();
        p10turn();
    }

    private static void orderPromises() {
        p11draft();
        p11draftAfterNodes();
        p12take();
        p12takeAfterNodes();
        p13rule();
        p14least();
        p15order();
        p16about();
        p17fill();
    }

    private static void setPromises() {
        p18clique();
        p19greatest();
        p20sort();
        p21colour();
        p22apart();
        p23tree();
        p24part();
        p25line();
        p26span();
        p27far();
    }

    private static void tablePromises() {
        p28columns();
        p29row();
        p30told();
        p31tear();
        p32copy();
        p33seatings();
        p34seat();
    }

    private static void toldPromises() {
        p35count();
        p36finding();
        p37findings();
        p38digest();
    }

    private static void due(String call, long got, long want) {
        check.due(call, got, want);
    }

    private static HolelessHouse graph(int n, String pairs) {
        return Houses.graph(n, pairs);
    }

    private static HolelessHouse table(int c, int... rows) {
        return Houses.table(c, rows);
    }

    private static void dueOrder(String call, HolelessHouse x, String want) {
        check.holds(call + ": order " + Houses.order(x) + ", due is " + want, Houses.order(x).equals(want));
    }

    private static void dueHole(HolelessHouse x, String want) {
        check.holds("hole " + Houses.hole(x) + ", due is " + want, Houses.hole(x).equals(want));
    }

    private static void constants() {
        due("BAD", HolelessHouse.BAD, -1);
        due("FULL", HolelessHouse.FULL, -2);
        due("FINDING", HolelessHouse.FINDING, -3);
        due("STATE", HolelessHouse.STATE, -4);
        due("NONE", HolelessHouse.NONE, -9);
    }

    private static void p1newObject() {
        HolelessHouse x = new HolelessHouse();
        for (int what = 0; what <= 4; what++) due("count(" + what + ") at first", x.count(what), 0);
        due("order(0) at first", x.order(0), NONE);
        due("about(0) at first", x.about(0), NONE);
        due("finding() at first", x.finding(), 0);
        for (int f = 1; f <= 4; f++) due("findings(" + f + ") at first", x.findings(f), 0);
        for (int r = 0; r < 12; r++) due("told(" + r + ") at first", x.told(r), FINDING);
    }

    private static void p2nodes() {
        HolelessHouse x = graph(3, "01 12");
        due("nodes(3) again", x.nodes(3), 3);
        due("no pairs are left", x.count(1), 0);
        due("nodes(12)", x.nodes(12), 12);
        due("N", x.count(0), 12);
        for (int n : new int[] {13, -1, LOW, HIGH}) due("nodes(" + n + ")", x.nodes(n), BAD);
        due("N after refusals", x.count(0), 12);
        x.join(0, 11, true);
        x.nodes(-1);
        due("what is refused changes nothing", x.joined(0), 1 << 11);
        due("nodes(0)", x.nodes(0), 0);
        due("no NODE 0", x.joined(0), BAD);
    }

    private static void p3join() {
        HolelessHouse x = graph(4, "");
        due("join new", x.join(0, 3, true), 0);
        due("join again", x.join(3, 0, true), 1);
        due("join away", x.join(0, 3, false), 1);
        due("join away again", x.join(0, 3, false), 0);
        due("both ends are free", x.joined(0) + x.joined(3), 0);
        due("same", x.join(2, 2, true), BAD);
        due("beyond", x.join(0, 4, true), BAD);
        due("beyond", x.join(4, 0, false), BAD);
        due("below", x.join(-1, 0, true), BAD);
        due("wild", x.join(LOW, HIGH, true), BAD);
        due("no pairs", x.count(1), 0);
    }

    private static void p4joined() {
        HolelessHouse x = graph(12, "0b 05 5b");
        due("joined(0)", x.joined(0), 1 << 11 | 1 << 5);
        due("joined(11)", x.joined(11), 1 | 1 << 5);
        due("joined(1)", x.joined(1), 0);
        for (int a : new int[] {-1, 12, LOW, HIGH}) due("joined(" + a + ")", x.joined(a), BAD);
    }

    private static void p5kind() {
        HolelessHouse x = graph(4, "01 12 20");
        due("one of three", x.kind(0), 1);
        due("alone", x.kind(3), 2);
        x.join(0, 3, true);
        due("joined to all, not tight", x.kind(0), 3);
        due("end", x.kind(3), 1);
        x.join(1, 3, true);
        x.join(2, 3, true);
        due("all joined are tight, no hubs", x.kind(0), 1);
        x = graph(4, "01 12 23 30");
        due("in a ring", x.kind(0), 0);
        due("only NODE", graph(1, "").kind(0), 2);
        for (int a : new int[] {-1, 4, LOW, HIGH}) due("kind(" + a + ")", x.kind(a), BAD);
    }

    private static void p6degree() {
        HolelessHouse x = graph(5, "01 02 03 04");
        due("hub as a hub", x.degree(0, 3), 4);
        due("hub as a node", x.degree(0, 0), 4);
        due("hub as a tight", x.degree(0, 1), FINDING);
        due("tight as a tight", x.degree(1, 1), 1);
        due("tight as a lone", x.degree(1, 2), FINDING);
        due("tight as a hub", x.degree(1, 3), FINDING);
        due("UNLIKE", x.finding(), 3);
        due("how often UNLIKE", x.findings(3), 3);
        for (int kind : new int[] {-1, 4, LOW, HIGH}) due("degree(0, " + kind + ")", x.degree(0, kind), BAD);
        for (int a : new int[] {-1, 5, LOW, HIGH}) due("degree(" + a + ", 3)", x.degree(a, 3), BAD);
        due("BAD is no finding", x.findings(3), 3);
        x = graph(2, "");
        for (int kind = 0; kind < 3; kind++) due("lone as " + kind, x.degree(1, kind), 0);
        due("lone as a hub", x.degree(1, 3), FINDING);
    }

    private static void p7sound() {
        due("no nodes", new HolelessHouse().sound(), 1);
        due("three in a ring", graph(3, "01 12 20").sound(), 1);
        due("four in a ring", graph(4, "01 12 23 30").sound(), 0);
        due("four with a way across", graph(4, "01 12 23 30 02").sound(), 1);
        due("twelve in a ring", graph(12, "01 12 23 34 45 56 67 78 89 9a ab b0").sound(), 0);
        due("hub over a ring", graph(5, "01 12 23 30 40 41 42 43").sound(), 0);
    }

    private static void p8hole() {
        dueHole(graph(4, "01 12 23 30 13"), "");
        dueHole(graph(4, "02 21 13 30"), "0213");
        // A ring of five has lesser nodes, but one of four is shorter.
        dueHole(graph(9, "01 12 23 34 40 56 67 78 85"), "5678");
        // Of two rings with the same nodes at first that is first which has the lesser one then.
        dueHole(graph(5, "03 31 12 20 34 42"), "0213");
        dueHole(graph(12, "01 12 23 34 45 56 67 78 89 9a ab b0"), "0123456789ab");
        dueHole(graph(6, "05 51 14 42 20"), "02415");
        HolelessHouse x = graph(4, "01 12 23 30");
        for (int i : new int[] {-1, 4, LOW, HIGH}) due("hole(" + i + ")", x.hole(i), NONE);
        x.join(0, 2, true);
        due("hole(0) after a way across", x.hole(0), NONE);
    }

    private static void p9fromTable() {
        HolelessHouse x = table(4, 7, 0, 8, 3);
        x.row(5, 12);
        x.tear(5);
        x.nodes(9);
        x.rule(0);
        due("fromTable()", x.fromTable(), 4);
        due("N", x.count(0), 4);
        due("joined(0)", x.joined(0), 6);
        due("joined(1)", x.joined(1), 5);
        due("joined(3)", x.joined(3), 0);
        due("THE ORDER went", x.order(0), NONE);
        due("the table stays", x.count(3), 4);
        x.columns(0);
        due("fromTable() without columns", x.fromTable(), 0);
        due("N", x.count(0), 0);
    }

    private static void p10turn() {
        HolelessHouse x = graph(4, "01 12");
        due("turn()", x.turn(), 4);
        due("joined(1)", x.joined(1), 8);
        due("joined(0)", x.joined(0), 12);
        due("turn() back", x.turn(), 2);
        due("joined(1)", x.joined(1), 5);
        due("turn() without nodes", new HolelessHouse().turn(), 0);
        due("turn() of twelve", graph(12, "").turn(), 66);
    }

    private static void p11draft() {
        HolelessHouse x = graph(3, "");
        due("draft(2)", x.draft(2), 1);
        due("draft(2) again", x.draft(2), BAD);
        due("draft(0)", x.draft(0), 2);
        for (int a : new int[] {-1, 3, LOW, HIGH}) due("draft(" + a + ")", x.draft(a), BAD);
        due("how many", x.count(4), 2);
        due("draft(1)", x.draft(1), 3);
        x.rule(0);
        due("an ORDER by a rule leaves THE DRAFT", x.count(4), 3);
        x.join(0, 1, true);
        due("a pair leaves THE DRAFT", x.count(4), 3);
    }

    private static void p12take() {
        HolelessHouse x = graph(3, "01 02");
        due("take() without a draft", x.take(), STATE);
        x.draft(0);
        x.draft(1);
        due("take() too early", x.take(), STATE);
        due("THE DRAFT is empty", x.count(4), 0);
        due("no ORDER", x.about(0), NONE);
        for (int a : new int[] {0, 2, 1}) x.draft(a);
        due("take()", x.take(), 1);
        dueOrder("take()", x, "021");
        due("THE DRAFT is empty", x.count(4), 0);
        due("take() of nothing", x.take(), STATE);
        dueOrder("refused take()", x, "021");
        due("take() without nodes", new HolelessHouse().take(), 0);
    }

    /** THE DRAFT keeps what is a NODE still, for no promise empties it, and nothing that is none any more. */
    private static void p11draftAfterNodes() {
        HolelessHouse x = graph(6, "");
        for (int a : new int[] {5, 2, 3, 0}) x.draft(a);
        due("nodes() refused", x.nodes(13), BAD);
        due("THE DRAFT stays", x.count(4), 4);
        x.nodes(3);
        due("those that are NODES stay", x.count(4), 2);
        due("and it has them", x.draft(2), BAD);
        x.nodes(6);
        due("what went does not come back", x.count(4), 2);
        due("it may come again", x.draft(5), 3);
        x.columns(3);
        due("columns() leaves THE DRAFT", x.count(4), 3);
        x.fromTable();
        due("fromTable() as nodes()", x.count(4), 2);
        x.turn();
        due("turn() leaves THE DRAFT", x.count(4), 2);
        due("the last one", x.draft(1), 3);
        due("take()", x.take(), 0);
        dueOrder("take()", x, "201");
    }

    private static void p12takeAfterNodes() {
        HolelessHouse x = graph(4, "");
        x.draft(3);
        x.nodes(1);
        due("it has not NODE 0", x.take(), STATE);
        due("no ORDER", x.order(0), NONE);
        x.nodes(2);
        x.draft(1);
        x.draft(0);
        x.nodes(1);
        due("it has all NODES", x.take(), 0);
        dueOrder("take()", x, "0");
        due("THE DRAFT is empty", x.count(4), 0);
        x.draft(0);
        x.nodes(0);
        due("take() without nodes", x.take(), 0);
        due("an ORDER without nodes", x.about(2), 1);
        due("no place", x.order(0), NONE);
    }

    private static void p13rule() {
        HolelessHouse x = graph(6, "01 12 23 30 34 45");
        due("rule(0)", x.rule(0), 1);
        dueOrder("rule(0)", x, "540123");
        due("rule(1)", x.rule(1), 1);
        dueOrder("rule(1)", x, "540123");
        x = graph(6, "01 02 03 14 25 35 45");
        due("rule(0)", x.rule(0), 5);
        dueOrder("rule(0) takes the least without a tight one", x, "012345");
        x.rule(1);
        dueOrder("rule(1)", x, "123045");
        // Node 0 is joined to fewest, but to let it go fills a pair; 3 goes without.
        x = graph(9, "01 02 34 35 36 45 46 56 17 27 48 58 68 18 28");
        x.rule(1);
        due("rule(1) first", x.order(0), 0);
        x.rule(2);
        due("rule(2) first", x.order(0), 3);
        for (int r : new int[] {-1, 3, LOW, HIGH}) due("rule(" + r + ")", x.rule(r), BAD);
        due("a refused rule leaves THE ORDER", x.order(0), 3);
        due("rule(2) without nodes", new HolelessHouse().rule(2), 0);
    }

    private static void p14least() {
        HolelessHouse x = graph(6, "03 04 05 13 14 15 23 24 25");
        due("least(0)", x.least(0), 3);
        dueOrder("least(0)", x, "012345");
        due("its WIDTH", x.about(1), 3);
        due("least(1)", x.least(1), 3);
        dueOrder("least(1)", x, "012345");
        x = graph(12, "01 12 23 34 45 56 67 78 89 9a ab b0");
        due("least(0) of a ring", x.least(0), 9);
        dueOrder("least(0)", x, "0123456789ab");
        due("least(1) of a ring", x.least(1), 2);
        x = graph(5, "01 02 03 04");
        due("least(0) of a star", x.least(0), 0);
        dueOrder("least(0)", x, "12304");
        due("least(1) of a star", x.least(1), 1);
        dueOrder("least(1)", x, "12304");
        due("least(1) without pairs", graph(2, "").least(1), 0);
        due("least(0) without nodes", new HolelessHouse().least(0), 0);
        for (int what : new int[] {-1, 2, LOW, HIGH}) due("least(" + what + ")", x.least(what), BAD);
        dueOrder("refused least()", x, "12304");
        // A node with FILL may go first, but after it 1 would be joined to four.
        x = graph(6, "01 02 13 23 34 35 45 14 15");
        due("least(1)", x.least(1), 3);
        dueOrder("least(1)", x, "021345");
        // 0 stands between two rings of four: each NODE has FILL, and that of 0, as little as any, helps no ring.
        x = graph(9, "01 05 12 23 34 41 56 67 78 85");
        due("least(0) of two rings", x.least(0), 2);
        dueOrder("least(0)", x, "234105678");
    }

    private static void p15order() {
        HolelessHouse x = graph(3, "01");
        x.rule(0);
        dueOrder("rule(0)", x, "012");
        for (int i : new int[] {-1, 3, LOW, HIGH}) due("order(" + i + ")", x.order(i), NONE);
        x.nodes(13);
        x.join(0, 0, true);
        x.join(0, 3, true);
        x.columns(3);
        x.row(0, 7);
        dueOrder("calls that are refused, and the table", x, "012");
        x.join(0, 1, true);
        due("order(0) after join() that changes nothing", x.order(0), NONE);
        x.rule(0);
        x.turn();
        due("order(0) after turn()", x.order(0), NONE);
        x.rule(0);
        x.fromTable();
        due("order(0) after fromTable()", x.order(0), NONE);
        x.rule(0);
        x.nodes(3);
        due("order(0) after nodes()", x.order(0), NONE);
    }

    private static void p16about() {
        HolelessHouse x = graph(4, "01 12 23 30");
        due("about(0) without an ORDER", x.about(0), NONE);
        due("about(3) without an ORDER", x.about(3), BAD);
        x.rule(0);
        due("FILL", x.about(0), 1);
        due("WIDTH", x.about(1), 2);
        due("PERFECT", x.about(2), 0);
        x.join(0, 2, true);
        x.rule(0);
        due("PERFECT", x.about(2), 1);
        for (int what : new int[] {-1, 3, LOW, HIGH}) due("about(" + what + ")", x.about(what), BAD);
        x.nodes(0);
        due("about(2) without an ORDER", x.about(2), NONE);
        x.least(0);
        due("WIDTH without nodes", x.about(1), 0);
        due("PERFECT without nodes", x.about(2), 1);
    }

    private static void p17fill() {
        HolelessHouse x = graph(5, "01 12 23 34 40");
        due("fill() without an ORDER", x.fill(), NONE);
        for (int a : new int[] {2, 0, 1, 3, 4}) x.draft(a);
        due("take()", x.take(), 2);
        due("fill()", x.fill(), 2);
        due("the first pair", x.joined(1), 1 | 4 | 8 | 16);
        due("pairs", x.count(1), 7);
        due("SOUND", x.sound(), 1);
        due("THE ORDER goes", x.order(0), NONE);
        due("fill() again", x.fill(), NONE);
        x.rule(0);
        due("fill() of a PERFECT ORDER", x.fill(), 0);
        due("THE ORDER goes", x.about(0), NONE);
        x.nodes(0);
        x.take();
        due("fill() without nodes", x.fill(), 0);
    }

    private static void p18clique() {
        HolelessHouse x = graph(6, "45 01 12 20 23");
        due("how many", x.clique(-1), 3);
        due("clique(0)", x.clique(0), 7);
        due("clique(1)", x.clique(1), 12);
        due("clique(2)", x.clique(2), 48);
        for (int i : new int[] {-2, 3, LOW, HIGH}) due("clique(" + i + ")", x.clique(i), NONE);
        x.join(4, 5, false);
        due("lone ones are cliques, too", x.clique(3), 32);
        due("none", new HolelessHouse().clique(-1), 0);
        x = graph(12, "01 12 20 34 45 53 67 78 86 9a ab b9");
        x.turn();
        due("as many as can be", x.clique(-1), 81);
        due("the last one", x.clique(80), 1 << 2 | 1 << 5 | 1 << 8 | 1 << 11);
    }

    private static void p19greatest() {
        due("without nodes", new HolelessHouse().greatest(), 0);
        due("without pairs", graph(3, "").greatest(), 1);
        due("a pair", graph(3, "12").greatest(), 2);
        due("three", graph(6, "01 12 23 34 45 50 13").greatest(), 3);
    }

    private static void p20sort() {
        HolelessHouse x = graph(4, "01 12 20");
        due("a CLIQUE", x.sort(7), 1);
        due("a pair", x.sort(5), 1);
        due("no two JOINED", x.sort(12), 2);
        due("one alone", x.sort(8), 3);
        due("none", x.sort(15), 0);
        for (int bits : new int[] {0, -1, 16, 24, LOW, HIGH}) due("sort(" + bits + ")", x.sort(bits), BAD);
        due("without nodes", new HolelessHouse().sort(1), BAD);
    }

    private static void p21colour() {
        dueColours(graph(6, "03 14 25 04 15"), 2, 0, 0, 0, 1, 1, 1);
        dueColours(graph(4, "02 13"), 2, 0, 0, 1, 1);
        // The least free colour each time would need a third one here.
        dueColours(graph(4, "03 32 21"), 2, 0, 1, 0, 1);
        dueColours(graph(3, "01 12 20"), 3, 0, 1, 2);
        dueColours(graph(5, "01 12 23 34 40"), 3, 0, 1, 0, 1, 2);
        HolelessHouse x = graph(4, "01");
        for (int a : new int[] {-2, 4, LOW, HIGH}) due("colour(" + a + ")", x.colour(a), BAD);
        due("none", new HolelessHouse().colour(-1), 0);
        due("no NODE", new HolelessHouse().colour(0), BAD);
    }

    private static void dueColours(HolelessHouse x, int many, int... colours) {
        due("colour(-1)", x.colour(-1), many);
        for (int a = 0; a < colours.length; a++) due("colour(" + a + ")", x.colour(a), colours[a]);
    }

    private static void p22apart() {
        due("without nodes", new HolelessHouse().apart(), 0);
        due("without pairs", graph(12, "").apart(), 4095);
        due("ring of four", graph(4, "01 12 23 30").apart(), 5);
        due("ring of five", graph(5, "01 12 23 34 40").apart(), 5);
        due("star", graph(4, "30 31 32").apart(), 7);
        due("all joined", graph(3, "01 12 20").apart(), 1);
    }

    private static void p23tree() {
        HolelessHouse x = graph(7, "01 12 23 34 13 56");
        due("cliques", x.clique(-1), 4);
        due("the first has no PARENT", x.tree(0, 0), NONE);
        due("the first has no PART", x.tree(0, 1), 0);
        due("1's PARENT", x.tree(1, 0), 0);
        due("1's PART", x.tree(1, 1), 2);
        due("2's PARENT", x.tree(2, 0), 1);
        due("2's PART", x.tree(2, 1), 8);
        due("one that has nothing in both", x.tree(3, 0), 0);
        due("its PART is empty", x.tree(3, 1), 0);
        for (int i : new int[] {-1, 4, LOW, HIGH}) due("tree(" + i + ", 0)", x.tree(i, 0), BAD);
        for (int what : new int[] {-1, 2, LOW, HIGH}) due("tree(0, " + what + ")", x.tree(0, what), BAD);
        // The lesser clique waits until one with more in both is tied.
        x = graph(6, "01 23 24 34 14 13");
        due("1's PARENT", x.tree(1, 0), 0);
        x = graph(4, "01 12 23 30");
        due("STATE", x.tree(0, 0), STATE);
        due("BAD ahead of STATE", x.tree(4, 0), BAD);
        x = graph(12, "01 23 45 67 89 ab");
        x.turn();
        due("STATE with more cliques than nodes", x.tree(63, 1), STATE);
        due("without nodes", new HolelessHouse().tree(0, 0), BAD);
    }

    private static void p24part() {
        HolelessHouse x = graph(6, "01 12 23 30 24 45");
        due("how many", x.part(1, 3, -1), 1);
        due("part(1, 3, 0)", x.part(1, 3, 0), 5);
        due("how many", x.part(0, 5, -1), 3);
        due("part(0, 5, 0)", x.part(0, 5, 0), 4);
        due("part(5, 0, 1)", x.part(5, 0, 1), 10);
        due("part(0, 5, 2)", x.part(0, 5, 2), 16);
        for (int i : new int[] {-2, 3, LOW, HIGH}) due("part(0, 5, " + i + ")", x.part(0, 5, i), NONE);
        due("JOINED", x.part(0, 1, -1), STATE);
        due("alike", x.part(2, 2, 0), BAD);
        for (int a : new int[] {-1, 6, LOW, HIGH}) {
            due("part(" + a + ", 0, 0)", x.part(a, 0, 0), BAD);
            due("part(0, " + a + ", 0)", x.part(0, a, 0), BAD);
        }
        x.join(2, 4, false);
        due("an empty PART", x.part(0, 5, -1), 1);
        due("an empty PART", x.part(0, 5, 0), 0);
        due("and no other", x.part(0, 5, 1), NONE);
    }

    private static void p25line() {
        HolelessHouse x = graph(5, "02 21 14 43");
        int[] cliques = {5, 6, 18, 24};
        for (int i = 0; i < 4; i++) due("clique(" + i + ")", x.clique(i), cliques[i]);
        for (int i = 0; i < 4; i++) due("line(" + i + ")", x.line(i), i);
        for (int i : new int[] {-1, 4, LOW, HIGH}) due("line(" + i + ")", x.line(i), NONE);
        // Clique 0 stands in the middle, so another one begins.
        x = graph(4, "01 12 03");
        int[] want = {1, 0, 2};
        for (int i = 0; i < 3; i++) due("line(" + i + ")", x.line(i), want[i]);
        due("a hole", graph(4, "01 12 23 30").line(0), NONE);
        due("three far ones", graph(7, "01 12 03 34 05 56").line(0), NONE);
        due("without nodes", new HolelessHouse().line(0), NONE);
        due("without pairs", graph(12, "").line(11), 11);
    }

    private static void p26span() {
        HolelessHouse x = graph(4, "01 12 03");
        int[] begins = {1, 0, 0, 2};
        int[] ends = {2, 1, 0, 2};
        for (int a = 0; a < 4; a++) {
            due("span(" + a + ", false)", x.span(a, false), begins[a]);
            due("span(" + a + ", true)", x.span(a, true), ends[a]);
        }
        for (int a : new int[] {-1, 4, LOW, HIGH}) due("span(" + a + ", true)", x.span(a, true), BAD);
        x = graph(4, "01 12 23 30");
        due("STATE", x.span(0, false), STATE);
        due("BAD ahead of STATE", x.span(4, false), BAD);
        x = graph(12, "01 23 45 67 89 ab");
        x.turn();
        due("STATE with many cliques", x.span(0, true), STATE);
        due("without nodes", new HolelessHouse().span(0, true), BAD);
    }

    private static void p27far() {
        HolelessHouse x = graph(7, "01 12 03 34 05 56");
        int[] want = {2, 4, 6};
        for (int i = 0; i < 3; i++) due("far(" + i + ")", x.far(i), want[i]);
        for (int i : new int[] {-1, 3, LOW, HIGH}) due("far(" + i + ")", x.far(i), NONE);
        x = graph(6, "01 12 23 34 45 50");
        for (int i = 0; i < 3; i++) due("a ring of six, far(" + i + ")", x.far(i), 2 * i);
        due("a star has none", graph(4, "01 02 03").far(0), NONE);
        due("no ways", graph(6, "").far(0), NONE);
        due("a ring of five has none", graph(5, "01 12 23 34 40").far(0), NONE);
        due("without nodes", new HolelessHouse().far(0), NONE);
    }

    private static void p28columns() {
        HolelessHouse x = table(3, 7, 1);
        due("columns(3) again", x.columns(3), 3);
        due("all ROWS are missing", x.count(3), 0);
        x.row(0, 7);
        for (int c : new int[] {9, HIGH}) due("columns(" + c + ")", x.columns(c), BAD);
        due("BAD is no finding", x.finding(), 0);
        for (int c : new int[] {-1, LOW}) due("columns(" + c + ")", x.columns(c), FINDING);
        due("SIZE", x.finding(), 4);
        due("how often SIZE", x.findings(4), 2);
        due("what is refused changes nothing", x.told(0), 7);
        due("C", x.count(2), 3);
        due("columns(8)", x.columns(8), 8);
        due("columns(0)", x.columns(0), 0);
        x.nodes(3);
        x.rule(0);
        x.columns(2);
        due("the graph stays", x.order(0), 0);
    }

    private static void p29row() {
        HolelessHouse x = table(3);
        due("row(0, 5)", x.row(0, 5), 1);
        due("row(0, 2) anew", x.row(0, 2), 1);
        due("told(0)", x.told(0), 2);
        due("an empty ROW is there", x.row(11, 0), 1);
        due("ROWS", x.count(3), 2);
        for (int bits : new int[] {-1, 8, LOW, HIGH}) due("row(0, " + bits + ")", x.row(0, bits), BAD);
        for (int r : new int[] {-1, 12, LOW, HIGH}) due("row(" + r + ", 1)", x.row(r, 1), FINDING);
        due("BEYOND", x.finding(), 2);
        due("how often", x.findings(2), 4);
        due("BAD ahead of BEYOND", x.row(12, 8), BAD);
        due("how often", x.findings(2), 4);
        x.columns(8);
        due("row(3, 255)", x.row(3, 255), 1);
        due("row(3, 256)", x.row(3, 256), BAD);
    }

    private static void p30told() {
        HolelessHouse x = table(3, 6);
        due("told(0)", x.told(0), 6);
        for (int r : new int[] {-1, 12, LOW, HIGH}) due("told(" + r + ")", x.told(r), FINDING);
        due("BEYOND", x.finding(), 2);
        due("told(1)", x.told(1), FINDING);
        due("NOTHING", x.finding(), 1);
        due("told(11)", x.told(11), FINDING);
        due("how often NOTHING", x.findings(1), 2);
        due("how often BEYOND", x.findings(2), 4);
        x.row(11, 0);
        due("an empty ROW", x.told(11), 0);
    }

    private static void p31tear() {
        HolelessHouse x = table(3, 6, 3);
        due("tear(0)", x.tear(0), 1);
        due("ROWS", x.count(3), 1);
        due("tear(0) again", x.tear(0), FINDING);
        due("NOTHING", x.finding(), 1);
        for (int r : new int[] {-1, 12, LOW, HIGH}) due("tear(" + r + ")", x.tear(r), FINDING);
        due("BEYOND", x.finding(), 2);
        due("the other one stays", x.told(1), 3);
    }

    private static void p32copy() {
        HolelessHouse x = table(4, 1, 2, 3);
        due("copy forth", x.copy(0, 1, 4), 1);
        int[] want = {1, 1, 2, 3};
        for (int r = 0; r < 4; r++) due("told(" + r + ")", x.told(r), want[r]);
        due("missing ones, too", x.told(4), FINDING);
        due("copy back", x.copy(1, 0, 11), 1);
        for (int r = 0; r < 3; r++) due("told(" + r + ")", x.told(r), r + 1);
        due("missing", x.told(3), FINDING);
        due("all onto itself", x.copy(0, 0, 12), 1);
        due("none", x.copy(3, 5, 0), 1);
        due("none, behind the last", x.copy(12, 12, 0), 1);
        due("ROWS", x.count(3), 3);
        int before = x.findings(2);
        int[][] wrong = {{0, 1, 12}, {1, 0, 12}, {0, 0, 13}, {-1, 0, 1}, {0, -1, 1}, {0, 0, -1}, {12, 0, 1}, {0, 12, 1},
            {13, 0, 0}, {0, 13, 0}, {HIGH, 0, HIGH}, {0, HIGH, 1}, {1, 1, HIGH}, {LOW, LOW, LOW}, {-1, 0, 0}};
        for (int[] w : wrong) due("copy(" + w[0] + ", " + w[1] + ", " + w[2] + ")", x.copy(w[0], w[1], w[2]), FINDING);
        due("BEYOND", x.finding(), 2);
        due("how often", x.findings(2), before + wrong.length);
        due("what is refused changes nothing", x.count(3), 3);
    }

    private static void p33seatings() {
        due("no COLUMNS", new HolelessHouse().seatings(), 1);
        due("no ROWS", table(8).seatings(), 40320);
        HolelessHouse x = table(4, 3, 12);
        due("two pairs", x.seatings(), 8);
        x.row(2, 6);
        due("a chain", x.seatings(), 2);
        x.row(3, 9);
        due("a ring", x.seatings(), 0);
        x.tear(3);
        due("a chain again", x.seatings(), 2);
        due("empty, one and all", table(3, 0, 2, 7).seatings(), 6);
        x.copy(5, 0, 3);
        due("all torn by missing ones", x.seatings(), 24);
        x.columns(2);
        due("new columns", x.seatings(), 2);
    }

    private static void p34seat() {
        HolelessHouse x = table(4, 5, 10, 9);
        int[] want = {1, 3, 0, 2};
        due("seatings()", x.seatings(), 2);
        for (int i = 0; i < 4; i++) due("seat(" + i + ")", x.seat(i), want[i]);
        for (int i : new int[] {-1, 4, LOW, HIGH}) due("seat(" + i + ")", x.seat(i), NONE);
        x.row(3, 6);
        due("no SEATING", x.seat(0), NONE);
        due("no COLUMNS", new HolelessHouse().seat(0), NONE);
        due("no ROWS", table(8).seat(7), 7);
    }

    private static void p35count() {
        HolelessHouse x = graph(5, "01 12 34");
        x.columns(6);
        x.row(4, 1);
        x.row(7, 0);
        x.draft(3);
        int[] want = {5, 3, 6, 2, 1};
        for (int what = 0; what < 5; what++) due("count(" + what + ")", x.count(what), want[what]);
        for (int what : new int[] {-1, 5, LOW, HIGH}) due("count(" + what + ")", x.count(what), BAD);
        x.columns(0);
        x.fromTable();
        due("no NODE in THE DRAFT where there is none", x.count(4), 0);
        x.nodes(5);
        due("nor afterwards", x.count(4), 0);
    }

    private static void p36finding() {
        HolelessHouse x = graph(2, "");
        due("before any", x.finding(), 0);
        x.nodes(13);
        x.take();
        x.order(0);
        due("BAD, STATE and NONE are none", x.finding(), 0);
        x.told(0);
        due("NOTHING", x.finding(), 1);
        x.told(12);
        due("BEYOND", x.finding(), 2);
        x.degree(0, 3);
        due("UNLIKE", x.finding(), 3);
        x.columns(-1);
        due("SIZE", x.finding(), 4);
        x.columns(3);
        x.nodes(3);
        due("it stays", x.finding(), 4);
    }

    private static void p37findings() {
        HolelessHouse x = graph(2, "");
        for (int i = 0; i < 3; i++) x.told(i);
        x.tear(12);
        x.columns(-5);
        x.columns(-6);
        int[] want = {3, 1, 0, 2};
        for (int f = 1; f <= 4; f++) due("findings(" + f + ")", x.findings(f), want[f - 1]);
        for (int f : new int[] {-1, 0, 5, LOW, HIGH}) due("findings(" + f + ")", x.findings(f), BAD);
    }

    private static long digestOf(long... values) {
        long h = 17;
        for (long v : values) h = 31 * h + v;
        return h;
    }

    private static void p38digest() {
        HolelessHouse x = new HolelessHouse();
        due("at first", x.digest(), digestOf(0, 0, -1, -1, -1, -1, -1, -1, -1, -1, -1, -1, -1, -1));
        x.nodes(3);
        x.join(0, 2, true);
        x.columns(4);
        x.row(1, 9);
        x.row(11, 0);
        x.draft(2);
        x.draft(1);
        due("without an ORDER", x.digest(), digestOf(3, 4, 0, 1, 4, -1, 9, -1, -1, -1, -1, -1, -1, -1, -1, -1, 0, 2, 1));
        x.rule(0);
        due("with an ORDER", x.digest(), digestOf(3, 4, 0, 1, 0, 1, 2, 4, -1, 9, -1, -1, -1, -1, -1, -1, -1, -1, -1, 0, 2, 1));
        long before = x.digest();
        x.told(12);
        x.sound();
        x.colour(0);
        x.line(0);
        x.part(0, 1, 0);
        x.seatings();
        due("questions change nothing", x.digest(), before);
        x.nodes(2);
        due("fewer NODES", x.digest(), digestOf(2, 0, 0, 4, -1, 9, -1, -1, -1, -1, -1, -1, -1, -1, -1, 0, 1));
        x.nodes(0);
        due("no NODES", x.digest(), digestOf(0, 4, -1, 9, -1, -1, -1, -1, -1, -1, -1, -1, -1, 0));
    }
}
