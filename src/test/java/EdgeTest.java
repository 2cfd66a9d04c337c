import java.io.IOException;
import java.math.BigInteger;
import java.util.ArrayList;
import java.util.List;

/** Each sentence of the promises at its bounds: too small, too large, empty, full, wrapped around, refused. */
public final class EdgeTest {
    private static final int BAD = -1, FINDING = -3, STATE = -4, NONE = -9;
    private static final int NOTHING = 1, BEYOND = 2, UNLIKE = 3, SIZE = 4;
    private static final int LOW = Integer.MIN_VALUE, HIGH = Integer.MAX_VALUE;
    private static final String TWELVE = "0123456789ab";

    private static final Check check = new Check("EdgeTest");
    private static Sentences sentences;

    public static void main(String[] args) throws IOException {
        sentences = new Sentences(check);
        firstWords();
        theGraph();
        orders();
        cliquesAndColours();
        partsAndSpans();
        theTable();
        whatIsTold();
        for (int promise = 1; promise <= 38; promise++) sentences.allNamed("Promise " + promise);
        check.end();
    }

    private static void says(int promise, String words) {
        sentences.name("Promise " + promise, words);
    }

    private static void due(String call, long got, long want) {
        check.due(call, got, want);
    }

    private static void same(String what, String got, String want) {
        check.holds(what + " is '" + got + "', due is '" + want + "'", got.equals(want));
    }

    private static HolelessHouse graph(int n, String pairs) {
        return Houses.graph(n, pairs);
    }

    private static HolelessHouse fresh() {
        return new HolelessHouse();
    }

    // ---- the object

    private static void firstWords() {
        sentences.name("What it is", "An object is used for at most 512 calls after it has been made; what later calls answer is free.");
        HolelessHouse x = fresh();
        for (int call = 1; call <= 511; call++) x.told(12);
        due("the 512th call", x.findings(BEYOND), 511);
        newObject();
    }

    private static void newObject() {
        says(1, "No NODES, no COLUMNS.");
        HolelessHouse other = Houses.allJoined(12);
        other.columns(8);
        other.row(0, 255);
        other.told(12);
        HolelessHouse x = fresh();
        for (int what = 0; what < 5; what++) due("count(" + what + ")", x.count(what), 0);
        due("NODE 0", x.joined(0), BAD);
        due("COLUMN 0", x.row(0, 1), BAD);
        same("findings", Houses.findings(x), "0 0 0 0 0");
        due("no ORDER", x.about(0), NONE);
        due("the other one keeps its own", other.count(1), 66);
    }

    // ---- 1 the graph

    private static void theGraph() {
        nodesAnew();
        nodesBad();
        joinTells();
        joinBad();
        joinedAll();
        joinedBad();
        kindAhead();
        kindBad();
        degreeOfKind();
        degreeBad();
        soundOrNot();
        holePlace();
        tableToGraph();
        turned();
    }

    private static void nodesAnew() {
        says(2, "THE GRAPH has n NODES, none JOINED: n.");
        for (int n = 0; n <= 12; n++) {
            HolelessHouse x = Houses.allJoined(12);
            due("nodes(" + n + ")", x.nodes(n), n);
            due("N", x.count(0), n);
            due("pairs", x.count(1), 0);
            due("back to twelve", x.nodes(12), 12);
            for (int a = 0; a < 12; a++) due("joined(" + a + ")", x.joined(a), 0);
        }
        HolelessHouse x = Houses.ring(5);
        due("as many as before", x.nodes(5), 5);
        due("none JOINED", x.count(1), 0);
        due("no HOLE", x.hole(0), NONE);
    }

    private static void nodesBad() {
        says(2, "BAD.");
        HolelessHouse x = Houses.ring(5);
        x.rule(0);
        for (int n : Houses.outside(0, 12)) due("nodes(" + n + ")", x.nodes(n), BAD);
        due("N is as it was", x.count(0), 5);
        due("pairs are as they were", x.count(1), 5);
        same("THE ORDER is as it was", Houses.order(x), "01234");
    }

    private static void joinTells() {
        says(3, "Two NODES are JOINED, or not: 1 if they were, else 0.");
        HolelessHouse x = graph(12, "");
        due("not JOINED stays so", x.join(0, 11, false), 0);
        due("JOINED", x.join(0, 11, true), 0);
        due("JOINED again, from the other end", x.join(11, 0, true), 1);
        due("one pair", x.count(1), 1);
        due("not JOINED", x.join(11, 0, false), 1);
        due("not JOINED again", x.join(0, 11, false), 0);
        due("no pair", x.count(1), 0);
        x = Houses.allJoined(12);
        due("the last pair of all", x.join(10, 11, false), 1);
        due("one less", x.count(1), 65);
        due("the others of 10", x.joined(10), 1023);
    }

    private static void joinBad() {
        says(3, "BAD: also the same NODE.");
        HolelessHouse x = graph(12, "01");
        for (int a = 0; a < 12; a++) {
            due("join(" + a + ", " + a + ", true)", x.join(a, a, true), BAD);
            due("join(" + a + ", " + a + ", false)", x.join(a, a, false), BAD);
        }
        for (int a : Houses.outside(0, 11)) {
            due("join(" + a + ", 0)", x.join(a, 0, true), BAD);
            due("join(0, " + a + ")", x.join(0, a, true), BAD);
            due("join(" + a + ", " + a + ")", x.join(a, a, true), BAD);
        }
        due("pairs", x.count(1), 1);
        x = graph(2, "");
        due("join(1, 2)", x.join(1, 2, true), BAD);
        due("join(2, 1)", x.join(2, 1, true), BAD);
        due("join() without NODES", fresh().join(0, 1, true), BAD);
    }

    private static void joinedAll() {
        says(4, "All that are JOINED to a NODE (bits).");
        due("none", graph(12, "").joined(11), 0);
        for (int a = 0; a < 12; a++) due("all but itself", Houses.allJoined(12).joined(a), 4095 & ~(1 << a));
        due("alone", Houses.allJoined(1).joined(0), 0);
    }

    private static void joinedBad() {
        says(4, "BAD.");
        for (int n = 0; n <= 12; n += 4) {
            HolelessHouse x = Houses.allJoined(n);
            for (int a : Houses.outside(0, n - 1)) due("joined(" + a + ") of " + n, x.joined(a), BAD);
        }
    }

    private static void kindAhead() {
        says(5, "The KIND of a NODE (HUB ahead of NODE; LONE ahead of TIGHT).");
        HolelessHouse x = graph(3, "01 02");
        due("HUB ahead of NODE", x.kind(0), 3);
        due("TIGHT", x.kind(1), 1);
        x.nodes(3);
        due("LONE ahead of TIGHT", x.kind(1), 2);
        x.nodes(1);
        due("JOINED to all others, of whom there are none", x.kind(0), 2);
        due("NODE", Houses.ring(4).kind(3), 0);
        due("NODE of twelve", Houses.ring(12).kind(11), 0);
        due("TIGHT, not HUB", Houses.allJoined(2).kind(0), 1);
    }

    private static void kindBad() {
        says(5, "BAD.");
        for (int n = 0; n <= 12; n += 4) {
            HolelessHouse x = Houses.allJoined(n);
            for (int a : Houses.outside(0, n - 1)) due("kind(" + a + ") of " + n, x.kind(a), BAD);
        }
    }

    private static void degreeOfKind() {
        says(6, "How many are JOINED to a NODE that IS of a KIND.");
        due("LONE", graph(1, "").degree(0, 2), 0);
        due("TIGHT, all", Houses.allJoined(12).degree(11, 1), 11);
        HolelessHouse x = Houses.allJoined(12);
        x.join(0, 1, false);
        due("HUB", x.degree(11, 3), 11);
        due("NODE", x.degree(1, 0), 10);
    }

    private static void degreeBad() {
        says(6, "BAD: also the KIND; UNLIKE: it is none of it (a LONE one IS a TIGHT, each a NODE).");
        // NODE 0 is a HUB; beside NODES to which it is not JOINED it is none.
        HolelessHouse hub = graph(4, "01 02 03 12");
        HolelessHouse mixed = graph(6, "01 02 03 12 14");
        dueKinds("a HUB", hub, 0, 3, true, false, false, true);
        dueKinds("a TIGHT", hub, 3, 1, true, true, false, false);
        dueKinds("a NODE", mixed, 0, 3, true, false, false, false);
        dueKinds("a LONE", mixed, 5, 0, true, true, true, false);
        HolelessHouse x = graph(4, "01 02 03 12");
        for (int kind : Houses.outside(0, 3)) due("degree(0, " + kind + ")", x.degree(0, kind), BAD);
        for (int a : Houses.outside(0, 3)) for (int kind = 0; kind < 4; kind++) due("degree(" + a + ", " + kind + ")", x.degree(a, kind), BAD);
        due("BAD is no FINDING", x.finding(), 0);
        due("without NODES", fresh().degree(0, 0), BAD);
    }

    private static void dueKinds(String who, HolelessHouse x, int a, int many, boolean... is) {
        for (int kind = 0; kind < 4; kind++) {
            int before = x.findings(UNLIKE);
            due(who + " as " + kind, x.degree(a, kind), is[kind] ? many : FINDING);
            due(who + " as " + kind + ": how often UNLIKE", x.findings(UNLIKE), is[kind] ? before : before + 1);
        }
        due("UNLIKE", x.finding(), UNLIKE);
    }

    private static void soundOrNot() {
        says(7, "Whether THE GRAPH is SOUND: 1, 0.");
        due("without NODES", fresh().sound(), 1);
        due("no pairs", graph(12, "").sound(), 1);
        due("all pairs", Houses.allJoined(12).sound(), 1);
        HolelessHouse x = Houses.ring(4);
        due("ring of four", x.sound(), 0);
        x.join(0, 2, true);
        due("a way across", x.sound(), 1);
        x.join(0, 2, false);
        due("none again", x.sound(), 0);
        x.turn();
        due("turned", x.sound(), 1);
        x.nodes(4);
        due("new NODES", x.sound(), 1);
    }

    private static void holePlace() {
        says(8, "NODE i of THE HOLE; NONE: none such.");
        for (int n : new int[] {4, 12}) {
            HolelessHouse x = Houses.ring(n);
            due("the first", x.hole(0), 0);
            due("the last", x.hole(n - 1), n - 1);
            for (int i : Houses.outside(0, n - 1)) due("hole(" + i + ") of " + n, x.hole(i), NONE);
        }
        for (int i : new int[] {0, -1, 3, HIGH}) {
            due("without NODES", fresh().hole(i), NONE);
            due("SOUND", Houses.ring(3).hole(i), NONE);
        }
        due("no NODE of THE HOLE, but one of THE GRAPH", graph(5, "01 12 23 30").hole(4), NONE);
    }

    private static void tableToGraph() {
        says(9, "NODES are what THE TABLE says: N becomes C, and two are JOINED if they are in one ROW that is there: N.");
        HolelessHouse x = Houses.allJoined(12);
        due("no COLUMNS", x.fromTable(), 0);
        due("N", x.count(0), 0);
        x.columns(8);
        due("no ROWS", x.fromTable(), 8);
        due("no pairs", x.count(1), 0);
        x.row(0, 0);
        x.row(1, 128);
        x.fromTable();
        due("ROWS of none and of one", x.count(1), 0);
        x.row(0, 129);
        x.row(11, 192);
        x.row(5, 2 | 4);
        x.tear(5);
        x.fromTable();
        due("the first ROW", x.joined(0), 128);
        due("the last ROW", x.joined(6), 128);
        due("in one ROW, not over two", x.joined(7), 1 | 64);
        due("a missing ROW", x.joined(1), 0);
        x.row(3, 255);
        x.fromTable();
        due("all", x.count(1), 28);
        x.columns(1);
        due("one COLUMN", x.fromTable(), 1);
        due("alone", x.joined(0), 0);
    }

    private static void turned() {
        says(10, "Each NODE becomes JOINED to those to which it is not, and to no others: how many pairs are JOINED.");
        due("without NODES", fresh().turn(), 0);
        due("one NODE", graph(1, "").turn(), 0);
        HolelessHouse x = graph(12, "");
        due("none to all", x.turn(), 66);
        due("never to itself", x.joined(5), 4095 & ~32);
        due("all to none", x.turn(), 0);
        x.join(0, 11, true);
        due("all but one", x.turn(), 65);
        due("no others", x.joined(11), 2046);
        x.nodes(3);
        due("fewer NODES", x.turn(), 3);
        due("no NODE that is gone", x.joined(0), 6);
    }

    // ---- 2 orders

    private static void orders() {
        draftComes();
        draftBad();
        takeAll();
        takeTooEarly();
        ruleFills();
        ruleBad();
        leastOf();
        leastBad();
        orderPlace();
        orderTakenAway();
        aboutOrder();
        aboutBad();
        fillPairs();
        fillNone();
        fillTakesOrder();
    }

    private static void draftComes() {
        says(11, "A NODE comes behind THE DRAFT: how many it has.");
        HolelessHouse x = graph(12, "");
        for (int i = 0; i < 12; i++) due("draft(" + (11 - i) + ")", x.draft(11 - i), i + 1);
        due("full", x.count(4), 12);
        x.take();
        same("behind", Houses.order(x), "ba9876543210");
        due("one of one", graph(1, "").draft(0), 1);
    }

    private static void draftBad() {
        says(11, "BAD: also one that it has.");
        HolelessHouse x = graph(12, "");
        for (int a = 0; a < 12; a++) {
            x.draft(a);
            for (int b = 0; b <= a; b++) due("draft(" + b + "), which it has", x.draft(b), BAD);
        }
        for (int a : Houses.outside(0, 11)) due("draft(" + a + ")", x.draft(a), BAD);
        due("how many", x.count(4), 12);
        x.take();
        due("none is in it now", x.draft(0), 1);
        due("without NODES", fresh().draft(0), BAD);
        x.nodes(2);
        due("beyond N", x.draft(2), BAD);
    }

    private static void takeAll() {
        says(12, "THE DRAFT becomes an ORDER (THE ORDER), and is empty then: its FILL.");
        due("no NODES, an empty DRAFT", fresh().take(), 0);
        HolelessHouse x = Houses.ring(4);
        Houses.draftAll(x, 3, 1, 0, 2);
        due("FILL", x.take(), 1);
        due("THE DRAFT is empty", x.count(4), 0);
        same("THE ORDER", Houses.order(x), "3102");
        Houses.draftAll(x, 0, 1, 2, 3);
        x.take();
        same("a new ORDER for the one before", Houses.order(x), "0123");
        x = graph(12, "0b 1b 2b 3b 4b 5b 6b 7b 8b 9b ab");
        Houses.draftAll(x, 11, 10, 9, 8, 7, 6, 5, 4, 3, 2, 1, 0);
        due("the most FILL", x.take(), 55);
    }

    private static void takeTooEarly() {
        says(12, "STATE: it has not all NODES (it is empty then, too).");
        HolelessHouse x = Houses.ring(12);
        x.rule(0);
        String seen = Houses.seen(x);
        due("an empty DRAFT", x.take(), STATE);
        same("nothing changed", Houses.seen(x), seen);
        Houses.draftAll(x, 0, 1, 2, 3, 4, 5, 6, 7, 8, 9, 10);
        due("all but one", x.take(), STATE);
        due("it is empty then, too", x.count(4), 0);
        same("all else is as it was", Houses.seen(x), seen);
        due("no FINDING", x.finding(), 0);
        due("what it had may come again", x.draft(0), 1);
        due("one NODE, none in THE DRAFT", graph(1, "").take(), STATE);
        due("no ORDER where there was none", graph(1, "").about(0), NONE);
    }

    private static void ruleFills() {
        says(13, "THE ORDER BY A RULE: its FILL.");
        for (int r = 0; r < 3; r++) {
            HolelessHouse x = fresh();
            due("without NODES", x.rule(r), 0);
            due("there is an ORDER", x.about(2), 1);
            due("one NODE", graph(1, "").rule(r), 0);
            due("all JOINED", Houses.allJoined(12).rule(r), 0);
            due("ring of twelve", Houses.ring(12).rule(r), 9);
        }
        HolelessHouse x = Houses.ring(4);
        Houses.draftAll(x, 2, 0);
        x.rule(0);
        due("THE DRAFT is as it was", x.count(4), 2);
    }

    private static void ruleBad() {
        says(13, "BAD.");
        HolelessHouse x = Houses.ring(4);
        for (int r : Houses.outside(0, 2)) due("rule(" + r + ")", x.rule(r), BAD);
        due("no ORDER", x.about(0), NONE);
        x.rule(1);
        for (int r : Houses.outside(0, 2)) due("rule(" + r + ")", x.rule(r), BAD);
        same("THE ORDER is as it was", Houses.order(x), "0123");
    }

    private static void leastOf() {
        says(14, "THE ORDER is THE FIRST with THE LEAST FILL (0), WIDTH (1): that.");
        for (int what = 0; what < 2; what++) {
            HolelessHouse x = fresh();
            due("without NODES", x.least(what), 0);
            due("there is an ORDER", x.about(2), 1);
            due("one NODE", graph(1, "").least(what), 0);
            due("no pairs", graph(12, "").least(what), 0);
        }
        due("all JOINED, FILL", Houses.allJoined(12).least(0), 0);
        due("all JOINED, WIDTH", Houses.allJoined(12).least(1), 11);
        HolelessHouse x = graph(12, "06 07 08 09 0a 0b 16 17 18 19 1a 1b 26 27 28 29 2a 2b 36 37 38 39 3a 3b 46 47 48 49 4a 4b 56 57 58 59 5a 5b");
        due("each of six to each of six, FILL", x.least(0), 15);
        due("each of six to each of six, WIDTH", x.least(1), 6);
        same("THE ORDER", Houses.order(x), TWELVE);
    }

    private static void leastBad() {
        says(14, "BAD.");
        HolelessHouse x = Houses.ring(4);
        for (int what : Houses.outside(0, 1)) due("least(" + what + ")", x.least(what), BAD);
        due("no ORDER", x.about(0), NONE);
        Houses.draftAll(x, 3, 2, 1, 0);
        x.take();
        for (int what : Houses.outside(0, 1)) due("least(" + what + ")", x.least(what), BAD);
        same("THE ORDER is as it was", Houses.order(x), "3210");
    }

    private static void orderPlace() {
        says(15, "NODE i of THE ORDER; NONE: none such, or ");
        for (int n : new int[] {1, 5, 12}) {
            HolelessHouse x = graph(n, "");
            due("before any", x.order(0), NONE);
            x.rule(0);
            due("the last", x.order(n - 1), n - 1);
            for (int i : Houses.outside(0, n - 1)) due("order(" + i + ") of " + n, x.order(i), NONE);
        }
        HolelessHouse x = fresh();
        x.rule(0);
        due("an ORDER without NODES", x.order(0), NONE);
    }

    private static void orderTakenAway() {
        says(15, "it was taken away (by nodes(), join(), fromTable(), turn() that are done).");
        dueTakenAway("nodes(4)", ordered -> ordered.nodes(4), true);
        dueTakenAway("nodes(0)", ordered -> ordered.nodes(0), true);
        dueTakenAway("join() that changes", ordered -> ordered.join(0, 2, true), true);
        dueTakenAway("join() of JOINED ones", ordered -> ordered.join(0, 1, true), true);
        dueTakenAway("join() away of others", ordered -> ordered.join(0, 2, false), true);
        dueTakenAway("fromTable()", ordered -> ordered.fromTable(), true);
        dueTakenAway("turn()", ordered -> ordered.turn(), true);
        dueTakenAway("nodes(13)", ordered -> ordered.nodes(13), false);
        dueTakenAway("nodes(-1)", ordered -> ordered.nodes(-1), false);
        dueTakenAway("join(0, 0)", ordered -> ordered.join(0, 0, true), false);
        dueTakenAway("join(0, 4)", ordered -> ordered.join(0, 4, true), false);
        dueTakenAway("draft(0)", ordered -> ordered.draft(0), false);
        dueTakenAway("take() too early", ordered -> ordered.take(), false);
        dueTakenAway("columns(4)", ordered -> ordered.columns(4), false);
        dueTakenAway("row(0, 0)", ordered -> ordered.row(0, 0), false);
        dueTakenAway("copy(0, 1, 1)", ordered -> ordered.copy(0, 1, 1), false);
        HolelessHouse x = fresh();
        x.rule(0);
        x.turn();
        due("an ORDER without NODES goes, too", x.about(0), NONE);
    }

    private interface Step {
        int on(HolelessHouse x);
    }

    private static void dueTakenAway(String call, Step step, boolean gone) {
        HolelessHouse x = Houses.ring(4);
        x.rule(0);
        step.on(x);
        due("order(0) after " + call, x.order(0), gone ? NONE : 0);
        due("about(0) after " + call, x.about(0), gone ? NONE : 1);
        due("fill() after " + call, x.fill(), gone ? NONE : 1);
    }

    private static void aboutOrder() {
        says(16, "Of THE ORDER: 0 its FILL, 1 its WIDTH, 2 whether it is PERFECT (1, 0); NONE: there is none.");
        HolelessHouse x = fresh();
        for (int what = 0; what < 3; what++) due("none at first", x.about(what), NONE);
        x.take();
        int[] empty = {0, 0, 1};
        for (int what = 0; what < 3; what++) due("without NODES", x.about(what), empty[what]);
        x = Houses.ring(12);
        for (int what = 0; what < 3; what++) due("none", x.about(what), NONE);
        x.rule(0);
        int[] ring = {9, 2, 0};
        for (int what = 0; what < 3; what++) due("ring of twelve", x.about(what), ring[what]);
        x = Houses.allJoined(12);
        x.rule(0);
        int[] all = {0, 11, 1};
        for (int what = 0; what < 3; what++) due("all JOINED", x.about(what), all[what]);
    }

    private static void aboutBad() {
        says(16, "BAD.");
        HolelessHouse x = Houses.ring(4);
        for (int what : Houses.outside(0, 2)) due("about(" + what + "), no ORDER", x.about(what), BAD);
        x.rule(0);
        for (int what : Houses.outside(0, 2)) due("about(" + what + ")", x.about(what), BAD);
    }

    private static void fillPairs() {
        says(17, "The pairs of the FILL of THE ORDER come to be JOINED: how many.");
        HolelessHouse x = graph(12, "0b 1b 2b 3b 4b 5b 6b 7b 8b 9b ab");
        Houses.draftAll(x, 11, 0, 1, 2, 3, 4, 5, 6, 7, 8, 9, 10);
        x.take();
        due("the most", x.fill(), 55);
        due("all pairs", x.count(1), 66);
        x = Houses.ring(12);
        x.rule(0);
        due("a ring", x.fill(), 9);
        due("SOUND", x.sound(), 1);
        due("pairs", x.count(1), 21);
        x = Houses.ring(3);
        x.rule(0);
        due("PERFECT", x.fill(), 0);
        due("pairs are as they were", x.count(1), 3);
    }

    private static void fillNone() {
        says(17, "NONE: there is none.");
        due("without NODES", fresh().fill(), NONE);
        HolelessHouse x = Houses.ring(4);
        due("no ORDER", x.fill(), NONE);
        due("pairs are as they were", x.count(1), 4);
        Houses.draftAll(x, 0, 1, 2, 3);
        due("a DRAFT is no ORDER", x.fill(), NONE);
        due("THE DRAFT is as it was", x.count(4), 4);
    }

    private static void fillTakesOrder() {
        says(17, "(THE ORDER goes.)");
        for (int n = 0; n <= 12; n += 3) {
            HolelessHouse x = graph(n, "");
            x.rule(0);
            due("fill() of a PERFECT ORDER", x.fill(), 0);
            due("about()", x.about(0), NONE);
            due("order()", x.order(0), NONE);
            due("fill() again", x.fill(), NONE);
        }
        HolelessHouse x = Houses.ring(4);
        x.draft(2);
        x.rule(0);
        x.fill();
        due("THE ORDER goes", x.order(0), NONE);
        due("THE DRAFT does not", x.count(4), 1);
    }

    // ---- 3 cliques and colours

    private static void cliquesAndColours() {
        cliquePlace();
        greatestOne();
        sortOf();
        sortBad();
        colourOf();
        colourBad();
        apartOf();
        treeOf();
        treeRefused();
    }

    private static void cliquePlace() {
        says(18, "GREAT CLIQUE i (bits); - 1: how many there are; NONE: none such.");
        due("without NODES", fresh().clique(-1), 0);
        due("none such", fresh().clique(0), NONE);
        due("one NODE", graph(1, "").clique(-1), 1);
        HolelessHouse x = graph(12, "");
        due("twelve", x.clique(-1), 12);
        due("the last", x.clique(11), 2048);
        for (int i : Houses.outside(-1, 11)) due("clique(" + i + ") of 12", x.clique(i), NONE);
        x = graph(12, "01 12 20 34 45 53 67 78 86 9a ab b9");
        x.turn();
        due("as many as there can be", x.clique(-1), 81);
        due("the first", x.clique(0), 1 | 8 | 64 | 512);
        due("the last", x.clique(80), 4 | 32 | 256 | 2048);
        for (int i : Houses.outside(-1, 80)) due("clique(" + i + ") of 81", x.clique(i), NONE);
    }

    private static void greatestOne() {
        says(19, "The most NODES that a CLIQUE has.");
        due("without NODES", fresh().greatest(), 0);
        due("one NODE", graph(1, "").greatest(), 1);
        due("no pairs", graph(12, "").greatest(), 1);
        due("all", Houses.allJoined(12).greatest(), 12);
        due("the last three", graph(12, "01 23 9a ab b9").greatest(), 3);
    }

    private static void sortOf() {
        says(20, "Whether a set of NODES is a CLIQUE (1), no two of it JOINED (2; one NODE alone: 3), none (0).");
        for (int v = 0; v < 12; v++) {
            due("one alone", Houses.allJoined(12).sort(1 << v), 3);
            due("one alone", graph(12, "").sort(1 << v), 3);
        }
        due("all, JOINED", Houses.allJoined(12).sort(4095), 1);
        due("all, not JOINED", graph(12, "").sort(4095), 2);
        HolelessHouse x = Houses.allJoined(12);
        x.join(10, 11, false);
        due("all but the last pair", x.sort(4095), 0);
        due("the last pair", x.sort(3072), 2);
        x = graph(12, "ab");
        due("the last pair alone", x.sort(4095), 0);
        due("the last pair alone", x.sort(3072), 1);
        due("the only NODE", graph(1, "").sort(1), 3);
    }

    private static void sortBad() {
        says(20, "BAD: bits that are no NODES, none.");
        for (int n = 0; n <= 12; n += 3) {
            HolelessHouse x = Houses.allJoined(n);
            due("none", x.sort(0), BAD);
            for (int v = n; v < 32; v++) {
                due("bit " + v + " of " + n, x.sort(1 << v), BAD);
                due("bit " + v + " and NODE 0 of " + n, x.sort(1 << v | 1), BAD);
            }
            due("all bits", x.sort(-1), BAD);
            due("all bits but the sign", x.sort(HIGH), BAD);
        }
    }

    private static void colourOf() {
        says(21, "The colour of a NODE in THE COLOURS; - 1: how many colours.");
        due("without NODES", fresh().colour(-1), 0);
        due("one NODE", graph(1, "").colour(-1), 1);
        due("its colour", graph(1, "").colour(0), 0);
        due("all JOINED", Houses.allJoined(12).colour(-1), 12);
        due("the last of all", Houses.allJoined(12).colour(11), 11);
        due("no pairs", graph(12, "").colour(-1), 1);
        due("more colours than the greatest CLIQUE has NODES", Houses.ring(5).colour(-1), 3);
        due("the last of them", Houses.ring(5).colour(4), 2);
    }

    private static void colourBad() {
        says(21, "BAD.");
        for (int n = 0; n <= 12; n += 4) {
            HolelessHouse x = graph(n, "");
            for (int a : Houses.outside(-1, n - 1)) due("colour(" + a + ") of " + n, x.colour(a), BAD);
        }
    }

    private static void apartOf() {
        says(22, "THE APART (bits).");
        due("without NODES", fresh().apart(), 0);
        due("the only NODE", graph(1, "").apart(), 1);
        due("all", graph(12, "").apart(), 4095);
        due("all JOINED", Houses.allJoined(12).apart(), 1);
        due("all but the first", graph(12, "01 02 03 04 05 06 07 08 09 0a 0b").apart(), 4094);
        due("ring of twelve", Houses.ring(12).apart(), 0x555);
        due("ring of eleven", Houses.ring(11).apart(), 0x155);
    }

    private static void treeOf() {
        says(23, "Of GREAT CLIQUE i in THE TREE OF CLIQUES: 0 its PARENT (NONE: clique 0), 1 its PART (bits; 0).");
        HolelessHouse x = graph(1, "");
        due("the only one", x.tree(0, 0), NONE);
        due("its PART", x.tree(0, 1), 0);
        x = graph(12, "");
        due("as many CLIQUES as there can be", x.tree(11, 0), 0);
        due("nothing in both", x.tree(11, 1), 0);
        x = graph(12, "01 12 23 34 45 56 67 78 89 9a ab");
        due("the end of a row", x.tree(10, 0), 9);
        due("its PART", x.tree(10, 1), 1 << 10);
        x.nodes(3);
        due("a PARENT that was there before", x.tree(2, 0), 0);
    }

    private static void treeRefused() {
        says(23, "BAD: i, what; STATE: THE GRAPH is not SOUND.");
        HolelessHouse x = graph(12, "");
        for (int i : Houses.outside(0, 11)) {
            due("tree(" + i + ", 0)", x.tree(i, 0), BAD);
            due("tree(" + i + ", 1)", x.tree(i, 1), BAD);
        }
        for (int what : Houses.outside(0, 1)) due("tree(0, " + what + ")", x.tree(0, what), BAD);
        due("without NODES", fresh().tree(0, 0), BAD);
        x = Houses.ring(4);
        for (int i = 0; i < 4; i++) for (int what = 0; what < 2; what++) due("not SOUND", x.tree(i, what), STATE);
        due("BAD ahead of STATE: i", x.tree(4, 0), BAD);
        due("BAD ahead of STATE: what", x.tree(0, -1), BAD);
        due("no FINDING", x.finding(), 0);
        x = graph(12, "01 12 20 34 45 53 67 78 86 9a ab b9");
        x.turn();
        due("the last of 81 CLIQUES", x.tree(80, 0), STATE);
        due("the 82nd", x.tree(81, 0), BAD);
    }

    // ---- 3 parts and spans

    private static void partsAndSpans() {
        partPlace();
        partRefused();
        partEmpty();
        linePlace();
        spanPlace();
        spanRefused();
        farPlace();
    }

    private static void partPlace() {
        says(24, "PART i between a and b (bits); - 1: how many there are; NONE: none such.");
        HolelessHouse x = graph(12, "01 12 23 34 45 56 67 78 89 9a ab");
        due("how many", x.part(0, 11, -1), 10);
        due("the first", x.part(0, 11, 0), 2);
        due("the last", x.part(11, 0, 9), 1024);
        for (int i : Houses.outside(-1, 9)) due("part(0, 11, " + i + ")", x.part(0, 11, i), NONE);
        x.join(0, 2, true);
        due("one less", x.part(0, 11, -1), 9);
        due("other NODES", x.part(3, 5, -1), 1);
        due("other NODES", x.part(5, 3, 0), 16);
    }

    private static void partRefused() {
        says(24, "BAD: NODES; STATE: JOINED.");
        HolelessHouse x = graph(12, "01");
        for (int a : Houses.outside(0, 11)) {
            due("part(" + a + ", 0, -1)", x.part(a, 0, -1), BAD);
            due("part(0, " + a + ", -1)", x.part(0, a, -1), BAD);
            due("part(" + a + ", " + a + ", 0)", x.part(a, a, 0), BAD);
        }
        for (int a = 0; a < 12; a++) due("alike", x.part(a, a, -1), BAD);
        for (int i : new int[] {-1, 0, 1, LOW, HIGH}) {
            due("JOINED, part " + i, x.part(0, 1, i), STATE);
            due("JOINED, part " + i, x.part(1, 0, i), STATE);
        }
        due("no FINDING", x.finding(), 0);
        due("without NODES", fresh().part(0, 1, 0), BAD);
    }

    private static void partEmpty() {
        says(24, "(A PART may be empty.)");
        HolelessHouse x = graph(2, "");
        due("one PART", x.part(0, 1, -1), 1);
        due("which is empty", x.part(0, 1, 0), 0);
        due("no other", x.part(0, 1, 1), NONE);
        x = graph(12, "01 12 23 34 45 67 78 89 9a ab");
        due("two halves of twelve", x.part(0, 11, -1), 1);
        due("the empty one", x.part(0, 11, 0), 0);
        due("not within a half", x.part(0, 2, 0), 2);
    }

    private static void linePlace() {
        says(25, "Place i of THE FIRST SPANS: a GREAT CLIQUE; NONE: none such, or no SPANS.");
        due("without NODES", fresh().line(0), NONE);
        due("one NODE", graph(1, "").line(0), 0);
        due("one place", graph(1, "").line(1), NONE);
        HolelessHouse x = graph(12, "");
        due("the last", x.line(11), 11);
        for (int i : Houses.outside(0, 11)) due("line(" + i + ") of 12", x.line(i), NONE);
        for (int i : new int[] {-1, 0, 1, 3, 4, HIGH}) {
            due("a HOLE", Houses.ring(4).line(i), NONE);
            due("FAR ones", graph(7, "01 12 03 34 05 56").line(i), NONE);
        }
        x = graph(12, "01 12 20 34 45 53 67 78 86 9a ab b9");
        x.turn();
        due("81 CLIQUES", x.line(0), NONE);
        x.nodes(2);
        due("SPANS again", x.line(1), 1);
    }

    private static void spanPlace() {
        says(26, "The SPAN of a NODE in THE FIRST: at which place it begins (end: ends).");
        HolelessHouse x = graph(1, "");
        due("one NODE begins", x.span(0, false), 0);
        due("and ends", x.span(0, true), 0);
        x = graph(12, "");
        due("the last begins", x.span(11, false), 11);
        due("and ends", x.span(11, true), 11);
        x = graph(12, "0b 1b 2b 3b 4b 5b 6b 7b 8b 9b ab");
        due("from the first", x.span(11, false), 0);
        due("to the last", x.span(11, true), 10);
        due("all JOINED", Houses.allJoined(12).span(11, true), 0);
    }

    private static void spanRefused() {
        says(26, "BAD; STATE: no SPANS.");
        for (int n = 0; n <= 12; n += 4) {
            HolelessHouse x = graph(n, "");
            for (int a : Houses.outside(0, n - 1)) due("span(" + a + ") of " + n, x.span(a, false), BAD);
        }
        HolelessHouse hole = Houses.ring(4);
        HolelessHouse far = graph(7, "01 12 03 34 05 56");
        for (boolean end : new boolean[] {false, true}) {
            due("a HOLE", hole.span(3, end), STATE);
            due("FAR ones", far.span(6, end), STATE);
            due("BAD ahead of STATE", hole.span(4, end), BAD);
            due("BAD ahead of STATE", far.span(-1, end), BAD);
        }
        due("no FINDING", hole.finding() + far.finding(), 0);
        hole.nodes(4);
        due("SPANS again", hole.span(3, true), 3);
    }

    private static void farPlace() {
        says(27, "FAR NODE i (0 .. 2) of the first FAR ones (by NODES, the least first, place by place); NONE: there are none, none such.");
        HolelessHouse x = Houses.ring(12);
        same("the first of many", Houses.far(x), "024");
        for (int i : Houses.outside(0, 2)) due("far(" + i + ")", x.far(i), NONE);
        same("the least first", Houses.far(graph(7, "63 31 14 40 15 52")), "026");
        same("the last NODES", Houses.far(graph(12, "59 6a 7b 89 8a 8b")), "567");
        for (int i : new int[] {-1, 0, 1, 2, 3}) {
            due("without NODES", fresh().far(i), NONE);
            due("three NODES", graph(3, "").far(i), NONE);
            due("ring of five", Houses.ring(5).far(i), NONE);
        }
        x.nodes(12);
        due("none any more", x.far(0), NONE);
    }

    // ---- 4 the table

    private static void theTable() {
        columnsAnew();
        columnsRefused();
        rowComes();
        rowRefused();
        toldRow();
        toldRefused();
        tearRow();
        tearRefused();
        copyRows();
        copyRefused();
        howManySeatings();
        seatPlace();
    }

    private static void columnsAnew() {
        says(28, "THE TABLE has c COLUMNS (0 .. 8): c; all ROWS are missing.");
        for (int c = 0; c <= 8; c++) {
            HolelessHouse x = Houses.table(8, 1, 2, 3, 4, 5, 6, 7, 8, 9, 10, 11, 12);
            due("columns(" + c + ")", x.columns(c), c);
            due("C", x.count(2), c);
            due("ROWS", x.count(3), 0);
            for (int r = 0; r < 12; r++) due("told(" + r + ")", x.told(r), FINDING);
        }
    }

    private static void columnsRefused() {
        says(28, "BAD: c above 8; SIZE.");
        HolelessHouse x = Houses.table(5, 31);
        for (int c : Houses.outside(LOW, 8)) due("columns(" + c + ")", x.columns(c), BAD);
        due("BAD is no FINDING", x.finding(), 0);
        int times = 0;
        for (int c : Houses.outside(0, HIGH - 1)) {
            if (c >= 0) continue;
            due("columns(" + c + ")", x.columns(c), FINDING);
            due("SIZE", x.finding(), SIZE);
            times++;
            due("how often", x.findings(SIZE), times);
        }
        due("C is as it was", x.count(2), 5);
        due("the ROW is as it was", x.told(0), 31);
    }

    private static void rowComes() {
        says(29, "A ROW is there with these COLUMNS: 1.");
        for (int c = 0; c <= 8; c++) {
            HolelessHouse x = Houses.table(c);
            due("the first place, none", x.row(0, 0), 1);
            due("the last place, all", x.row(11, (1 << c) - 1), 1);
            due("ROWS", x.count(3), 2);
            due("told(0)", x.told(0), 0);
            due("told(11)", x.told(11), (1 << c) - 1);
            due("anew", x.row(11, 0), 1);
            due("told(11)", x.told(11), 0);
        }
    }

    private static void rowRefused() {
        says(29, "BAD: bits; BEYOND: no ROW 0 .. 11.");
        for (int c = 0; c <= 8; c += 4) {
            HolelessHouse x = Houses.table(c, 0);
            for (int bits : Houses.outside(0, (1 << c) - 1)) {
                due("row(0, " + bits + ")", x.row(0, bits), BAD);
                due("BAD ahead of BEYOND", x.row(12, bits), BAD);
            }
            due("BAD is no FINDING", x.finding(), 0);
            for (int r : Houses.outside(0, 11)) due("row(" + r + ", 0)", x.row(r, 0), FINDING);
            due("BEYOND", x.finding(), BEYOND);
            due("how often", x.findings(BEYOND), Houses.outside(0, 11).size());
            due("ROWS", x.count(3), 1);
            due("ROW 0 is as it was", x.told(0), 0);
        }
    }

    private static void toldRow() {
        says(30, "A ROW's bits.");
        HolelessHouse x = Houses.table(8, 255, 0, 0, 0, 0, 0, 0, 0, 0, 0, 0, 128);
        due("all", x.told(0), 255);
        due("none", x.told(1), 0);
        due("the last", x.told(11), 128);
        due("no FINDING", x.finding(), 0);
    }

    private static void toldRefused() {
        says(30, "BEYOND; NOTHING.");
        HolelessHouse x = Houses.table(8, 255);
        for (int r : Houses.outside(0, 11)) {
            due("told(" + r + ")", x.told(r), FINDING);
            due("BEYOND", x.finding(), BEYOND);
        }
        due("how often BEYOND", x.findings(BEYOND), Houses.outside(0, 11).size());
        for (int r = 1; r < 12; r++) {
            due("told(" + r + ")", x.told(r), FINDING);
            due("NOTHING", x.finding(), NOTHING);
        }
        due("how often NOTHING", x.findings(NOTHING), 11);
    }

    private static void tearRow() {
        says(31, "A ROW is missing: 1.");
        HolelessHouse x = Houses.table(8, 255, 0, 0, 0, 0, 0, 0, 0, 0, 0, 0, 128);
        due("the first", x.tear(0), 1);
        due("an empty one", x.tear(1), 1);
        due("the last", x.tear(11), 1);
        due("ROWS", x.count(3), 9);
        due("told(0)", x.told(0), FINDING);
        due("told(11)", x.told(11), FINDING);
        due("C is as it was", x.count(2), 8);
    }

    private static void tearRefused() {
        says(31, "BEYOND; NOTHING: it was.");
        HolelessHouse x = Houses.table(8, 255);
        for (int r : Houses.outside(0, 11)) {
            due("tear(" + r + ")", x.tear(r), FINDING);
            due("BEYOND", x.finding(), BEYOND);
        }
        due("how often BEYOND", x.findings(BEYOND), Houses.outside(0, 11).size());
        for (int r = 1; r < 12; r++) {
            due("tear(" + r + ")", x.tear(r), FINDING);
            due("NOTHING", x.finding(), NOTHING);
        }
        x.tear(0);
        due("tear(0) again", x.tear(0), FINDING);
        due("how often NOTHING", x.findings(NOTHING), 12);
    }

    private static String rows(HolelessHouse x) {
        List<String> rows = new ArrayList<>();
        for (int r = 0; r < 12; r++) {
            int bits = x.told(r);
            rows.add(bits == FINDING ? "-" : Integer.toString(bits));
        }
        return String.join(" ", rows);
    }

    private static void copyRows() {
        says(32, "n ROWS from one on (missing ones, too) come to those from another one on, as if taken ahead: 1.");
        dueCopy(0, 1, 11, "1 1 2 3 - - - - - - - -");
        dueCopy(1, 0, 11, "2 3 - - - - - - - - 12 12");
        dueCopy(0, 0, 12, "1 2 3 - - - - - - - - 12");
        dueCopy(11, 0, 1, "12 2 3 - - - - - - - - 12");
        dueCopy(0, 11, 1, "1 2 3 - - - - - - - - 1");
        dueCopy(3, 0, 3, "- - - - - - - - - - - 12");
        dueCopy(0, 6, 6, "1 2 3 - - - 1 2 3 - - -");
        dueCopy(6, 0, 6, "- - - - - 12 - - - - - 12");
        dueCopy(0, 2, 3, "1 2 1 2 3 - - - - - - 12");
        dueCopy(0, 5, 0, "1 2 3 - - - - - - - - 12");
        dueCopy(11, 11, 0, "1 2 3 - - - - - - - - 12");
        dueCopy(12, 0, 0, "1 2 3 - - - - - - - - 12");
        dueCopy(0, 12, 0, "1 2 3 - - - - - - - - 12");
    }

    private static void dueCopy(int r, int to, int n, String want) {
        HolelessHouse x = Houses.table(4, 1, 2, 3);
        x.row(11, 12);
        String call = "copy(" + r + ", " + to + ", " + n + ")";
        due(call, x.copy(r, to, n), 1);
        due(call + ": finding()", x.finding(), 0);
        same(call, rows(x), want);
    }

    private static void copyRefused() {
        says(32, "BEYOND: not so many there (a place, n below 0, too).");
        int[][] wrong = {{0, 0, 13}, {1, 0, 12}, {0, 1, 12}, {11, 0, 2}, {0, 11, 2}, {12, 0, 1}, {0, 12, 1}, {-1, 0, 1}, {0, -1, 1},
            {-1, 0, 0}, {0, -1, 0}, {0, 0, -1}, {11, 11, -1}, {12, 12, -12}, {13, 0, 0}, {0, 13, 0}, {13, 13, -1}, {-1, -1, -1},
            {1, 1, HIGH}, {HIGH, 0, 1}, {0, HIGH, 1}, {HIGH, HIGH, HIGH}, {HIGH, 0, 0}, {0, HIGH, 0}, {LOW, 0, 1}, {0, LOW, 1},
            {0, 0, LOW}, {LOW, LOW, LOW}, {HIGH, 0, LOW}, {LOW, 0, HIGH}, {1, 0, LOW}, {-12, 0, 12}, {0, -12, 12}};
        for (int[] w : wrong) {
            HolelessHouse x = Houses.table(4, 1, 2, 3);
            String call = "copy(" + w[0] + ", " + w[1] + ", " + w[2] + ")";
            due(call, x.copy(w[0], w[1], w[2]), FINDING);
            due(call + ": BEYOND", x.finding(), BEYOND);
            due(call + ": how often", x.findings(BEYOND), 1);
            same(call, rows(x), "1 2 3 - - - - - - - - -");
        }
    }

    private static void howManySeatings() {
        says(33, "How many SEATINGS there are.");
        int[] orders = {1, 1, 2, 6, 24, 120, 720, 5040, 40320};
        for (int c = 0; c <= 8; c++) {
            HolelessHouse x = Houses.table(c);
            due("no ROWS, " + c + " COLUMNS", x.seatings(), orders[c]);
            for (int r = 0; r < 12; r++) x.row(r, (1 << c) - 1);
            due("twelve whole ROWS, " + c + " COLUMNS", x.seatings(), orders[c]);
        }
        HolelessHouse x = Houses.table(8, 3, 5);
        due("0 between 1 and 2", x.seatings(), 1440);
        x.row(11, 9);
        due("0 beside three", x.seatings(), 0);
        x.copy(2, 11, 1);
        due("a missing ROW comes", x.seatings(), 1440);
        x.columns(8);
        due("all ROWS are missing", x.seatings(), 40320);
    }

    private static void seatPlace() {
        says(34, "The COLUMN at place i of THE FIRST SEATING; NONE: none such.");
        for (int c = 0; c <= 8; c++) {
            HolelessHouse x = Houses.table(c);
            same("no ROWS", Houses.seating(x), TWELVE.substring(0, c));
            for (int i : Houses.outside(0, c - 1)) due("seat(" + i + ") of " + c, x.seat(i), NONE);
        }
        HolelessHouse x = Houses.table(8, 129, 3);
        same("0 between 1 and 7", Houses.seating(x), "10723456");
        x.row(2, 130);
        for (int i = -1; i < 9; i++) due("no SEATING", x.seat(i), NONE);
    }

    // ---- 5 what is told

    private static void whatIsTold() {
        countOf();
        countBad();
        latestFinding();
        howOften();
        howOftenBad();
        digestOfAll();
    }

    private static void countOf() {
        says(35, "0 N, 1 JOINED pairs, 2 C, 3 ROWS that are there, 4 NODES in THE DRAFT.");
        int[] most = {12, 66, 8, 12, 12};
        HolelessHouse x = Houses.allJoined(12);
        x.columns(8);
        for (int r = 0; r < 12; r++) x.row(r, 0);
        for (int a = 0; a < 12; a++) x.draft(a);
        for (int what = 0; what < 5; what++) due("the most: count(" + what + ")", x.count(what), most[what]);
        x.columns(0);
        x.fromTable();
        for (int what = 0; what < 5; what++) due("none: count(" + what + ")", x.count(what), 0);
        for (int what = 0; what < 5; what++) due("at first: count(" + what + ")", fresh().count(what), 0);
    }

    private static void countBad() {
        says(35, "BAD.");
        HolelessHouse x = Houses.allJoined(12);
        for (int what : Houses.outside(0, 4)) due("count(" + what + ")", x.count(what), BAD);
    }

    private static void latestFinding() {
        says(36, "The latest FINDING (0 before any).");
        HolelessHouse x = Houses.ring(4);
        due("before any", x.finding(), 0);
        x.nodes(13);
        x.tree(0, 0);
        x.order(0);
        x.take();
        due("BAD, STATE and NONE are none", x.finding(), 0);
        x.columns(-1);
        due("SIZE", x.finding(), SIZE);
        due("it is told again", x.finding(), SIZE);
        x.told(0);
        due("NOTHING", x.finding(), NOTHING);
        x.columns(3);
        x.nodes(0);
        x.nodes(13);
        due("it stays", x.finding(), NOTHING);
        x.copy(0, 0, 13);
        due("BEYOND", x.finding(), BEYOND);
    }

    private static void howOften() {
        says(37, "How often a FINDING (1 .. 4) was answered.");
        HolelessHouse x = graph(1, "");
        for (int f = 1; f <= 4; f++) due("at first", x.findings(f), 0);
        for (int i = 0; i < 100; i++) {
            x.told(0);
            x.told(-1);
            x.degree(0, 3);
            x.columns(-1);
        }
        for (int f = 1; f <= 4; f++) due("a hundred times", x.findings(f), 100);
        x.nodes(0);
        x.columns(0);
        due("it stays", x.findings(4), 100);
    }

    private static void howOftenBad() {
        says(37, "BAD.");
        HolelessHouse x = fresh();
        x.told(0);
        for (int f : Houses.outside(1, 4)) due("findings(" + f + ")", x.findings(f), BAD);
        same("asking is no FINDING", Houses.findings(x), "1 1 0 0 0");
    }

    /** 31 h + v without a bound, and then what a long keeps of it. */
    private static long wrapped(int... values) {
        BigInteger h = BigInteger.valueOf(17);
        for (int v : values) h = h.multiply(BigInteger.valueOf(31)).add(BigInteger.valueOf(v));
        return h.longValue();
    }

    private static void digestOfAll() {
        says(38, "h = 17; then h = 31 h + v for each v: N; joined() of each NODE; THE ORDER's NODES; C; of each ROW its bits (-1: missing); "
            + "THE DRAFT's NODES.");
        HolelessHouse x = fresh();
        due("at first", x.digest(), wrapped(0, 0, -1, -1, -1, -1, -1, -1, -1, -1, -1, -1, -1, -1));
        x.rule(0);
        due("an ORDER without NODES", x.digest(), wrapped(0, 0, -1, -1, -1, -1, -1, -1, -1, -1, -1, -1, -1, -1));
        x.nodes(2);
        x.join(0, 1, true);
        x.columns(1);
        x.row(0, 1);
        x.row(1, 0);
        x.draft(1);
        due("no ORDER", x.digest(), wrapped(2, 2, 1, 1, 1, 0, -1, -1, -1, -1, -1, -1, -1, -1, -1, -1, 1));
        x.rule(0);
        due("an ORDER", x.digest(), wrapped(2, 2, 1, 0, 1, 1, 1, 0, -1, -1, -1, -1, -1, -1, -1, -1, -1, -1, 1));
        x.take();
        due("THE DRAFT is empty", x.digest(), wrapped(2, 2, 1, 0, 1, 1, 1, 0, -1, -1, -1, -1, -1, -1, -1, -1, -1, -1));
        due("all there can be", full().digest(), wrapped(12, 4094, 4093, 4091, 4087, 4079, 4063, 4031, 3967, 3839, 3583, 3071, 2047,
            0, 1, 2, 3, 4, 5, 6, 7, 8, 9, 10, 11, 8, 255, 254, 253, 252, 251, 250, 249, 248, 247, 246, 245, 244,
            11, 10, 9, 8, 7, 6, 5, 4, 3, 2, 1, 0));
    }

    private static HolelessHouse full() {
        HolelessHouse x = Houses.allJoined(12);
        x.columns(8);
        for (int r = 0; r < 12; r++) x.row(r, 255 - r);
        for (int a = 11; a >= 0; a--) x.draft(a);
        x.least(0);
        return x;
    }
}
