import java.io.IOException;
import java.util.ArrayList;
import java.util.List;
import java.util.function.Supplier;
import java.util.function.ToIntFunction;

/** Each sentence of the document's 'Terms' at its bounds: refusals and their order, and the words of its sections 1 to 4. */
public final class TermsTest {
    private static final int BAD = -1, FINDING = -3, STATE = -4, NONE = -9;
    private static final int NOTHING = 1, BEYOND = 2, UNLIKE = 3, SIZE = 4;

    private static final Check check = new Check("TermsTest");
    private static Sentences sentences;

    /** A call that is not done, its answer, and the FINDING that it leaves (0: none). */
    private record Refusal(String call, ToIntFunction<HolelessHouse> made, int answer, int finding) {
    }

    public static void main(String[] args) throws IOException {
        sentences = new Sentences(check);
        refusals();
        theGraph();
        orders();
        coloursAndSpans();
        theTable();
        sentences.allNamed("Terms");
        check.end();
    }

    private static void says(String words) {
        sentences.name("Terms", words);
    }

    private static void due(String call, long got, long want) {
        check.due(call, got, want);
    }

    private static void same(String what, String got, String want) {
        check.holds(what + " is '" + got + "', due is '" + want + "'", got.equals(want));
    }

    // ---- what is refused

    private static void refusals() {
        whichComesFirst();
        noneIsNoRefusal();
        refusedChangesNothing();
        findingsByName();
        setsByBits();
    }

    private static void whichComesFirst() {
        says("Refused is, the first of these that fits, in this order: BAD -1 (a number that is none, or not as told), FULL -2, "
            + "STATE -4 (not now), FINDING -3 (finding() tells which), unless a call says so otherwise.");
        HolelessHouse x = Houses.ring(4);
        due("tree() of no CLIQUE, not SOUND", x.tree(4, 0), BAD);
        due("tree() of no what, not SOUND", x.tree(0, 2), BAD);
        due("tree(), not SOUND", x.tree(0, 0), STATE);
        due("span() of no NODE, no SPANS", x.span(4, true), BAD);
        due("span(), no SPANS", x.span(0, true), STATE);
        due("part() of no NODE beside one", x.part(0, 4, 0), BAD);
        due("part() of JOINED ones, no such PART", x.part(0, 1, 99), STATE);
        due("degree() of no NODE and no KIND", x.degree(4, 4), BAD);
        due("degree() of no KIND", x.degree(0, 4), BAD);
        due("degree() of no NODE, which IS no HUB", x.degree(4, 3), BAD);
        due("row() of no COLUMNS at no place", x.row(12, 1), BAD);
        due("about() of no what, no ORDER", x.about(3), BAD);
        due("no FINDING before", x.finding(), 0);
        due("degree() of another KIND", x.degree(0, 3), FINDING);
        due("row() at no place", x.row(12, 0), FINDING);
    }

    private static void noneIsNoRefusal() {
        says("NONE -9.");
        HolelessHouse x = Houses.graph(2, "");
        int[] answers = {x.hole(0), x.order(0), x.about(0), x.fill(), x.clique(2), x.tree(0, 0), x.part(0, 1, 1), x.line(2),
            x.far(0), x.seat(0)};
        for (int i = 0; i < answers.length; i++) due("NONE of call " + i, answers[i], NONE);
        due("NONE is no FINDING", x.finding(), 0);
    }

    private static void refusedChangesNothing() {
        says("What is refused changes nothing but finding(), findings().");
        eachChangesNothing("at first", HolelessHouse::new, refusedAlways());
        eachChangesNothing("at first", HolelessHouse::new, refusedAtFirst());
        eachChangesNothing("busy", TermsTest::busy, refusedAlways());
        eachChangesNothing("busy", TermsTest::busy, refusedBusy());
        eachChangesNothing("full", TermsTest::full, refusedAlways());
        eachChangesNothing("full", TermsTest::full, refusedFull());
    }

    private static void eachChangesNothing(String state, Supplier<HolelessHouse> maker, List<Refusal> refusals) {
        for (Refusal r : refusals) {
            HolelessHouse x = maker.get();
            String call = state + ": " + r.call();
            String seen = Houses.seen(x);
            String found = Houses.findings(x);
            int before = r.finding() == 0 ? 0 : x.findings(r.finding());
            due(call, r.made().applyAsInt(x), r.answer());
            same(call + ": what is seen", Houses.seen(x), seen);
            if (r.finding() == 0) {
                same(call + ": findings", Houses.findings(x), found);
            } else {
                due(call + ": finding()", x.finding(), r.finding());
                due(call + ": findings()", x.findings(r.finding()), before + 1);
            }
        }
    }

    /** A ring of four with one more beside it, an ORDER, a DRAFT, three ROWS. */
    private static HolelessHouse busy() {
        HolelessHouse x = Houses.graph(5, "01 12 23 30 34");
        x.columns(4);
        x.row(0, 3);
        x.row(1, 0);
        x.row(11, 15);
        Houses.draftAll(x, 4, 0);
        x.rule(1);
        x.told(2);
        return x;
    }

    /** As much of everything as can be. */
    private static HolelessHouse full() {
        HolelessHouse x = Houses.allJoined(12);
        x.columns(8);
        for (int r = 0; r < 12; r++) x.row(r, 255);
        for (int a = 0; a < 12; a++) x.draft(a);
        x.least(1);
        x.columns(-1);
        return x;
    }

    private static void add(List<Refusal> list, String call, ToIntFunction<HolelessHouse> made, int answer, int finding) {
        list.add(new Refusal(call, made, answer, finding));
    }

    /** Numbers that are wrong in every state. */
    private static List<Refusal> refusedAlways() {
        List<Refusal> list = new ArrayList<>();
        for (int v : Houses.outside(0, 12)) {
            add(list, "nodes(" + v + ")", x -> x.nodes(v), BAD, 0);
            add(list, "join(" + v + ", 0)", x -> x.join(v, 0, true), BAD, 0);
            add(list, "join(0, " + v + ")", x -> x.join(0, v, false), BAD, 0);
            add(list, "joined(" + v + ")", x -> x.joined(v), BAD, 0);
            add(list, "kind(" + v + ")", x -> x.kind(v), BAD, 0);
            add(list, "degree(" + v + ", 0)", x -> x.degree(v, 0), BAD, 0);
            add(list, "draft(" + v + ")", x -> x.draft(v), BAD, 0);
            add(list, "rule(" + v + ")", x -> x.rule(v), BAD, 0);
            add(list, "least(" + v + ")", x -> x.least(v), BAD, 0);
            add(list, "about(" + v + ")", x -> x.about(v), BAD, 0);
            add(list, "tree(0, " + v + ")", x -> x.tree(0, v), BAD, 0);
            add(list, "part(" + v + ", 0, 0)", x -> x.part(v, 0, 0), BAD, 0);
            add(list, "part(0, " + v + ", 0)", x -> x.part(0, v, 0), BAD, 0);
            add(list, "span(" + v + ")", x -> x.span(v, true), BAD, 0);
            add(list, "columns(" + v + ")", x -> x.columns(v), v < 0 ? FINDING : BAD, v < 0 ? SIZE : 0);
            add(list, "row(" + v + ", 0)", x -> x.row(v, 0), FINDING, BEYOND);
            add(list, "told(" + v + ")", x -> x.told(v), FINDING, BEYOND);
            add(list, "tear(" + v + ")", x -> x.tear(v), FINDING, BEYOND);
            add(list, "copy(" + v + ", 0, 1)", x -> x.copy(v, 0, 1), FINDING, BEYOND);
            add(list, "copy(0, " + v + ", 1)", x -> x.copy(0, v, 1), FINDING, BEYOND);
            add(list, "copy(0, 0, " + v + ")", x -> x.copy(0, 0, v), FINDING, BEYOND);
            add(list, "hole(" + v + ")", x -> x.hole(v), NONE, 0);
            add(list, "order(" + v + ")", x -> x.order(v), NONE, 0);
            add(list, "line(" + v + ")", x -> x.line(v), NONE, 0);
            add(list, "far(" + v + ")", x -> x.far(v), NONE, 0);
            add(list, "seat(" + v + ")", x -> x.seat(v), NONE, 0);
            add(list, "count(" + v + ")", x -> x.count(v), BAD, 0);
            add(list, "findings(" + v + ")", x -> x.findings(v), BAD, 0);
        }
        return list;
    }

    private static List<Refusal> refusedAtFirst() {
        List<Refusal> list = new ArrayList<>();
        add(list, "join(0, 1)", x -> x.join(0, 1, true), BAD, 0);
        add(list, "draft(0)", x -> x.draft(0), BAD, 0);
        add(list, "about(0)", x -> x.about(0), NONE, 0);
        add(list, "fill()", x -> x.fill(), NONE, 0);
        add(list, "sort(1)", x -> x.sort(1), BAD, 0);
        add(list, "colour(0)", x -> x.colour(0), BAD, 0);
        add(list, "tree(0, 0)", x -> x.tree(0, 0), BAD, 0);
        add(list, "part(0, 1, -1)", x -> x.part(0, 1, -1), BAD, 0);
        add(list, "row(0, 1)", x -> x.row(0, 1), BAD, 0);
        add(list, "told(0)", x -> x.told(0), FINDING, NOTHING);
        add(list, "tear(11)", x -> x.tear(11), FINDING, NOTHING);
        return list;
    }

    private static List<Refusal> refusedBusy() {
        List<Refusal> list = new ArrayList<>();
        add(list, "join(2, 2)", x -> x.join(2, 2, true), BAD, 0);
        add(list, "join(4, 5)", x -> x.join(4, 5, true), BAD, 0);
        add(list, "degree(0, 1)", x -> x.degree(0, 1), FINDING, UNLIKE);
        add(list, "degree(4, 2)", x -> x.degree(4, 2), FINDING, UNLIKE);
        add(list, "draft(4), which it has", x -> x.draft(4), BAD, 0);
        add(list, "draft(5)", x -> x.draft(5), BAD, 0);
        add(list, "sort(0)", x -> x.sort(0), BAD, 0);
        add(list, "sort(33)", x -> x.sort(33), BAD, 0);
        add(list, "colour(-2)", x -> x.colour(-2), BAD, 0);
        add(list, "tree(0, 0)", x -> x.tree(0, 0), STATE, 0);
        add(list, "part(0, 1, 0)", x -> x.part(0, 1, 0), STATE, 0);
        add(list, "part(0, 2, 1)", x -> x.part(0, 2, 1), NONE, 0);
        add(list, "span(0)", x -> x.span(0, false), STATE, 0);
        add(list, "columns(9)", x -> x.columns(9), BAD, 0);
        add(list, "row(0, 16)", x -> x.row(0, 16), BAD, 0);
        add(list, "row(0, -1)", x -> x.row(0, -1), BAD, 0);
        add(list, "told(2)", x -> x.told(2), FINDING, NOTHING);
        add(list, "tear(2)", x -> x.tear(2), FINDING, NOTHING);
        add(list, "copy(1, 0, 12)", x -> x.copy(1, 0, 12), FINDING, BEYOND);
        add(list, "copy(0, 11, 2)", x -> x.copy(0, 11, 2), FINDING, BEYOND);
        add(list, "findings(0)", x -> x.findings(0), BAD, 0);
        return list;
    }

    private static List<Refusal> refusedFull() {
        List<Refusal> list = new ArrayList<>();
        add(list, "nodes(13)", x -> x.nodes(13), BAD, 0);
        add(list, "join(0, 12)", x -> x.join(0, 12, false), BAD, 0);
        add(list, "draft(11), which it has", x -> x.draft(11), BAD, 0);
        add(list, "degree(0, 3)", x -> x.degree(0, 3), FINDING, UNLIKE);
        add(list, "sort(4096)", x -> x.sort(4096), BAD, 0);
        add(list, "tree(1, 0)", x -> x.tree(1, 0), BAD, 0);
        add(list, "part(0, 11, -1)", x -> x.part(0, 11, -1), STATE, 0);
        add(list, "order(12)", x -> x.order(12), NONE, 0);
        add(list, "columns(9)", x -> x.columns(9), BAD, 0);
        add(list, "row(0, 256)", x -> x.row(0, 256), BAD, 0);
        add(list, "row(12, 255)", x -> x.row(12, 255), FINDING, BEYOND);
        add(list, "seat(8)", x -> x.seat(8), NONE, 0);
        return list;
    }

    private static void findingsByName() {
        says("FINDINGS: 1 NOTHING (a ROW that there is not), 2 BEYOND (a place that there is not), 3 UNLIKE (a NODE of another KIND), "
            + "4 SIZE (fewer than none).");
        HolelessHouse x = Houses.graph(1, "");
        x.told(11);
        same("NOTHING", Houses.findings(x), "1 1 0 0 0");
        x.tear(0);
        same("NOTHING again", Houses.findings(x), "1 2 0 0 0");
        x.told(12);
        same("BEYOND", Houses.findings(x), "2 2 1 0 0");
        x.degree(0, 3);
        same("UNLIKE", Houses.findings(x), "3 2 1 1 0");
        x.columns(-1);
        same("SIZE", Houses.findings(x), "4 2 1 1 1");
    }

    private static void setsByBits() {
        says("Sets of NODES (CLIQUES, COLUMNS) are told by bits: bit v for NODE v.");
        HolelessHouse x = Houses.graph(12, "0b");
        due("bit 11", x.joined(0), 1 << 11);
        due("bit 0", x.joined(11), 1);
        due("both", x.clique(10), 1 << 11 | 1);
        x.columns(8);
        x.row(0, 1 << 7 | 1);
        x.fromTable();
        due("COLUMN 7", x.joined(0), 1 << 7);
    }

    // ---- 1 the graph

    private static void theGraph() {
        howManyNodes();
        greatCliques();
        cliquesByBits();
        kinds();
        holes();
        theHole();
        soundWithoutHole();
    }

    private static void howManyNodes() {
        says("THE GRAPH has N NODES 0 .. N - 1 (0 .. 12; 0 at first); two different ones are JOINED or not.");
        due("N at first", new HolelessHouse().count(0), 0);
        for (int n = 0; n <= 12; n++) {
            HolelessHouse x = Houses.graph(n, "");
            due("N", x.count(0), n);
            for (int a = 0; a < n; a++) due("NODE " + a + " of " + n, x.joined(a), 0);
            due("NODE " + n + " of " + n, x.joined(n), BAD);
        }
        HolelessHouse x = Houses.graph(12, "");
        for (int a = 0; a < 12; a++) for (int b = 0; b < 12; b++) {
            due("join(" + a + ", " + b + ")", x.join(a, b, true), a == b ? BAD : b < a ? 1 : 0);
        }
        due("all pairs", x.count(1), 66);
    }

    private static void greatCliques() {
        says("A CLIQUE: a set of NODES (not empty) of which all are JOINED; a GREAT one: no other NODE is JOINED to all of it.");
        same("without NODES", Houses.cliques(new HolelessHouse()), "[]");
        same("one NODE", Houses.cliques(Houses.graph(1, "")), "[1]");
        same("none JOINED", Houses.cliques(Houses.graph(3, "")), "[1, 2, 4]");
        same("all JOINED", Houses.cliques(Houses.allJoined(12)), "[4095]");
        same("a pair in three is not GREAT", Houses.cliques(Houses.graph(4, "01 12 20 23")), "[7, 12]");
        due("the empty set", Houses.graph(2, "").sort(0), BAD);
    }

    private static void cliquesByBits() {
        says("GREAT CLIQUES 0, 1, .. are in the order of their bits as numbers, the least first.");
        same("0 and 3 behind 1 and 2", Houses.cliques(Houses.graph(4, "03 12")), "[6, 9]");
        same("a great one behind small ones", Houses.cliques(Houses.graph(5, "01 12 24 40 14")), "[8, 19, 22]");
    }

    private static void kinds() {
        says("KINDS of a NODE: 0 NODE, 1 TIGHT (a NODE: those JOINED to it are a CLIQUE, or none), 2 LONE (a TIGHT: it is JOINED to none), "
            + "3 HUB (a NODE: it is JOINED to all others, and is not TIGHT).");
        due("JOINED to none", Houses.graph(2, "").kind(0), 2);
        due("JOINED to none, alone", Houses.graph(1, "").kind(0), 2);
        due("JOINED to one", Houses.graph(2, "01").kind(0), 1);
        due("all others, which are a CLIQUE", Houses.allJoined(12).kind(11), 1);
        due("all others, which are none", Houses.graph(3, "20 21").kind(2), 3);
        due("all others but one", Houses.graph(4, "20 21").kind(2), 0);
        HolelessHouse x = Houses.allJoined(12);
        x.join(0, 1, false);
        due("all eleven, one pair missing", x.kind(11), 3);
        due("ten, which are a CLIQUE", x.kind(0), 1);
    }

    private static void holes() {
        says("A HOLE: a ring of four NODES and more, each JOINED to the next and to no other one of it.");
        same("three are none", Houses.hole(Houses.ring(3)), "");
        for (int n = 4; n <= 12; n++) same("ring of " + n, Houses.hole(Houses.ring(n)), "0123456789ab".substring(0, n));
        same("one way across", Houses.hole(Houses.graph(4, "01 12 23 30 02")), "");
        same("all ways across", Houses.hole(Houses.allJoined(12)), "");
        same("a way across leaves a lesser ring", Houses.hole(Houses.graph(5, "01 12 23 34 40 02")), "0234");
        same("a ring of four with one JOINED to all of it", Houses.hole(Houses.graph(5, "12 23 34 41 01 02 03 04")), "1234");
        same("a row that does not close", Houses.hole(Houses.graph(4, "01 12 23")), "");
        for (int n = 4; n <= 6; n++) for (int from = 0; from < n; from++) {
            same("a ring of " + n + " behind one with ways across from " + from, Houses.hole(twoRings(n, from)), "0123456789ab".substring(n, 2 * n));
        }
    }

    /** A ring with ways across from one of its NODES to all others, and behind it another one without. */
    private static HolelessHouse twoRings(int n, int from) {
        HolelessHouse x = Houses.graph(2 * n, "");
        for (int v = 0; v < n; v++) {
            x.join(v, (v + 1) % n, true);
            x.join(n + v, n + (v + 1) % n, true);
            x.join(from, v, true);
        }
        return x;
    }

    private static void theHole() {
        says("THE HOLE: of those with fewest NODES the first, told as a row that begins with its least NODE, and goes on with the lesser one "
            + "of the two beside that; of two rows that is first which has the lesser NODE at the first place at which they differ.");
        same("fewest NODES", Houses.hole(Houses.graph(9, "01 12 23 34 40 56 67 78 85")), "5678");
        same("the lesser beside the least", Houses.hole(Houses.graph(4, "03 32 21 10")), "0123");
        same("not by the lesser opposite", Houses.hole(Houses.graph(4, "02 21 13 30")), "0213");
        same("first place", Houses.hole(Houses.graph(8, "45 56 67 74 01 12 23 30")), "0123");
        same("second place", Houses.hole(Houses.graph(6, "02 23 34 40 01 15 54")), "0154");
        same("third place", Houses.hole(Houses.graph(5, "01 12 24 40 13 34")), "0124");
        same("last place", Houses.hole(Houses.graph(5, "01 12 23 30 24 40")), "0123");
        same("the greatest NODES", Houses.hole(Houses.graph(12, "8a a9 9b b8")), "8a9b");
    }

    private static void soundWithoutHole() {
        says("THE GRAPH is SOUND if it has no HOLE.");
        due("without NODES", new HolelessHouse().sound(), 1);
        eachGraph(5, x -> due("sound() and hole(0)", x.sound(), x.hole(0) == NONE ? 1 : 0));
        due("ring of three", Houses.ring(3).sound(), 1);
        due("ring of four", Houses.ring(4).sound(), 0);
        due("ring of twelve", Houses.ring(12).sound(), 0);
    }

    private interface Look {
        void at(HolelessHouse x);
    }

    /** All graphs of n NODES, each a new object. */
    private static void eachGraph(int n, Look look) {
        for (int pairs = 0; pairs < 1 << n * (n - 1) / 2; pairs++) {
            HolelessHouse x = new HolelessHouse();
            x.nodes(n);
            int pair = 0;
            for (int a = 0; a < n; a++) for (int b = 0; b < a; b++) {
                if ((pairs >> pair++ & 1) == 1) x.join(a, b, true);
            }
            look.at(x);
        }
    }

    // ---- 2 orders

    private static void orders() {
        rowOfAll();
        going();
        fillAndWidth();
        perfect();
        byRule();
        leastAndFirst();
    }

    private static void rowOfAll() {
        says("An ORDER is a row of all NODES.");
        for (int n = 0; n <= 12; n++) {
            HolelessHouse x = Houses.graph(n, "");
            for (int a = 0; a < n; a++) {
                due("one is missing", x.take(), STATE);
                for (int b = 0; b <= a; b++) x.draft(b);
            }
            due("all of " + n, x.take(), 0);
            same("ORDER", Houses.order(x), "0123456789ab".substring(0, n));
        }
    }

    private static void going() {
        says("They GO in this order: as a NODE goes, all that are left and JOINED to it are JOINED to one another (pairs that were not: FILL), "
            + "and it is gone.");
        HolelessHouse x = Houses.graph(5, "01 02 03 04 12");
        Houses.draftAll(x, 3, 0, 1, 2, 4);
        due("pairs with 3 are none, for it is gone; 1 and 2 were JOINED", x.take(), 2);
        x = Houses.ring(5);
        Houses.draftAll(x, 0, 1, 2, 3, 4);
        due("what is JOINED by FILL is JOINED as the next goes", x.take(), 2);
        x.fill();
        due("1 has 4", x.joined(1), 1 | 4 | 16);
        due("2 has 4", x.joined(2), 2 | 8 | 16);
    }

    private static void fillAndWidth() {
        says("Its FILL: how many pairs; its WIDTH: the most NODES that are JOINED to one as it goes (0 without NODES).");
        HolelessHouse x = new HolelessHouse();
        due("FILL without NODES", x.take(), 0);
        due("WIDTH without NODES", x.about(1), 0);
        x.nodes(1);
        x.rule(0);
        due("WIDTH of one", x.about(1), 0);
        x = Houses.graph(12, "01 02 03 04 05 06 07 08 09 0a 0b");
        Houses.draftAll(x, 0, 1, 2, 3, 4, 5, 6, 7, 8, 9, 10, 11);
        due("the middle goes first: all other pairs", x.take(), 55);
        due("the most at once", x.about(1), 11);
        Houses.draftAll(x, 1, 2, 3, 4, 5, 6, 7, 8, 9, 10, 11, 0);
        due("the middle goes last", x.take(), 0);
        due("one at a time", x.about(1), 1);
    }

    private static void perfect() {
        says("A PERFECT ORDER: one without FILL (there is one exactly if THE GRAPH is SOUND).");
        for (int n = 0; n <= 5; n++) eachGraph(n, x -> {
            int sound = x.sound();
            x.rule(0);
            due("rule(0) is PERFECT", x.about(2), sound);
            x.least(0);
            due("least(0) is PERFECT", x.about(2), sound);
            due("FILL and PERFECT", x.about(0) == 0 ? 1 : 0, sound);
        });
    }

    private static void byRule() {
        says("BY A RULE: 0: each time, of the NODES left, the least TIGHT one (in what is left), and if there is none, the least; "
            + "1: that with the fewest JOINED (in what is left, with FILL), the least of these; 2: that with the least FILL, the least of these.");
        dueRule(Houses.graph(4, ""), 0, "0123");
        dueRule(Houses.graph(4, "01 02 03"), 0, "1203");
        dueRule(Houses.ring(5), 0, "01234");
        dueRule(Houses.graph(6, "01 12 23 30 45"), 0, "450123");
        // As 0 goes, 3 and 4 are JOINED: without that pair 3 would be TIGHT and go ahead of 1.
        dueRule(Houses.graph(5, "03 31 12 24 40"), 0, "01234");
        dueRule(Houses.graph(4, ""), 1, "0123");
        dueRule(Houses.graph(5, "01 12 20 03 14 04"), 1, "32014");
        // As 0 goes, 4 and 5 are JOINED: without that pair each would have one alone and go ahead of 1.
        dueRule(Houses.graph(8, "04 05 46 57 67 12 13 23"), 1, "01234567");
        dueRule(Houses.graph(4, ""), 2, "0123");
        // Three are JOINED to 0, and they are a CLIQUE; 1 has to wait until 4 and 5 have gone.
        dueRule(Houses.graph(8, "01 02 03 12 13 23 14 25 36 47 57 67"), 2, "04512367");
        dueRule(Houses.ring(6), 2, "012345");
        for (int r = 0; r < 3; r++) dueRule(new HolelessHouse(), r, "");
    }

    private static void dueRule(HolelessHouse x, int r, String want) {
        x.rule(r);
        same("rule(" + r + ")", Houses.order(x), want);
        check.holds("there is an ORDER", x.about(0) != NONE);
    }

    private static void leastAndFirst() {
        says("THE LEAST FILL (WIDTH): over all ORDERS; THE FIRST such ORDER: by NODES, place by place.");
        dueLeast(new HolelessHouse(), 0, "", 0, "");
        dueLeast(Houses.graph(1, ""), 0, "0", 0, "0");
        dueLeast(Houses.graph(12, ""), 0, "0123456789ab", 0, "0123456789ab");
        dueLeast(Houses.allJoined(12), 0, "0123456789ab", 11, "0123456789ab");
        dueLeast(Houses.ring(12), 9, "0123456789ab", 2, "0123456789ab");
        // A row of nodes with its middle at 0: each end goes ahead of the middle, and 0 goes as the last but one.
        dueLeast(Houses.graph(5, "10 02 13 24"), 0, "31024", 1, "31024");
        // FILL costs nothing for the WIDTH: 0 may go first all the same, and two are JOINED to it.
        dueLeast(Houses.graph(5, "01 02 23 24 34"), 0, "10234", 2, "01234");
        // What the ring costs is spent there: 4 may not cost as much once more, and 0 not what the ring will cost.
        dueLeast(Houses.graph(7, "01 12 23 30 45 46"), 1, "0123546", 2, "0123456");
        dueLeast(Houses.graph(7, "01 02 34 45 56 63"), 1, "1023456", 2, "0123456");
        for (String pairs : NOT_BY_RULE) {
            dueOverAll(7, pairs);
            dueOverAll(7, turnedAround(7, pairs));
        }
        eachGraph(4, TermsTest::dueOverAll);
    }

    /** Graphs of seven NODES in which rule 2 has more than the least FILL, or rule 1 more than the least WIDTH. */
    private static final String[] NOT_BY_RULE = {"12 03 13 04 14 05 25 45 06 26 36 46 56", "01 02 12 03 23 04 14 24 05 45 16 36 56",
        "01 03 13 23 04 14 24 34 05 25 16 46 56", "01 02 13 23 34 15 25 35 45 06 36 46 56", "01 12 03 23 04 14 24 05 15 25 35 06 16 36 46 56",
        "01 03 13 23 04 14 34 05 15 25 06 16 26"};

    private static String turnedAround(int n, String pairs) {
        StringBuilder other = new StringBuilder();
        for (char c : pairs.toCharArray()) other.append(c == ' ' ? c : Character.forDigit(n - 1 - Character.digit(c, 12), 12));
        return other.toString();
    }

    private static void dueOverAll(HolelessHouse x) {
        StringBuilder pairs = new StringBuilder();
        for (int a = 0; a < x.count(0); a++) for (int b = 0; b < a; b++) {
            if ((x.joined(a) >> b & 1) == 1) pairs.append(a).append(b).append(' ');
        }
        dueOverAll(x.count(0), pairs.toString());
    }

    /** Takes every ORDER there is, and keeps the first with the least FILL and the first with the least WIDTH. */
    private static void dueOverAll(int n, String pairs) {
        List<String> rows = new ArrayList<>();
        rowsFrom("", n, rows);
        String[] first = {"", ""};
        int[] least = {1000, 1000};
        HolelessHouse x = null;
        for (int i = 0; i < rows.size(); i++) {
            // An object has 512 calls alone.
            if (i % 40 == 0) x = Houses.graph(n, pairs);
            for (char c : rows.get(i).toCharArray()) x.draft(c - '0');
            int[] price = {x.take(), x.about(1)};
            for (int what = 0; what < 2; what++) if (price[what] < least[what]) {
                least[what] = price[what];
                first[what] = rows.get(i);
            }
        }
        dueLeast(Houses.graph(n, pairs), least[0], first[0], least[1], first[1]);
    }

    private static void rowsFrom(String begun, int n, List<String> rows) {
        if (begun.length() == n) rows.add(begun);
        for (char c = '0'; c < '0' + n; c++) if (begun.indexOf(c) < 0) rowsFrom(begun + c, n, rows);
    }

    private static void dueLeast(HolelessHouse x, int fill, String byFill, int width, String byWidth) {
        due("least(0)", x.least(0), fill);
        same("least(0)", Houses.order(x), byFill);
        due("least(1)", x.least(1), width);
        same("least(1)", Houses.order(x), byWidth);
    }

    // ---- 3 colours, trees, parts, spans

    private static void coloursAndSpans() {
        colours();
        apart();
        treeOfCliques();
        parts();
        partsByBits();
        spans();
        spanOfNode();
        farOnes();
        spansOrFar();
    }

    private static void colours() {
        says("COLOURS: numbers from 0 on, alike for no two JOINED NODES; THE COLOURS: of those with fewest, the first one, NODE by NODE.");
        dueColours(new HolelessHouse(), 0, "");
        dueColours(Houses.graph(12, ""), 1, "000000000000");
        dueColours(Houses.allJoined(12), 12, "0123456789ab");
        dueColours(Houses.ring(12), 2, "010101010101");
        dueColours(Houses.ring(11), 3, "01010101012");
        dueColours(Houses.graph(4, "03 32 21"), 2, "0101");
        dueColours(Houses.graph(6, "03 14 25 04 15"), 2, "000111");
    }

    private static void dueColours(HolelessHouse x, int many, String want) {
        StringBuilder row = new StringBuilder();
        for (int a = 0; a < x.count(0); a++) row.append(Character.forDigit(x.colour(a), 12));
        due("how many colours", x.colour(-1), many);
        same("colours", row.toString(), want);
    }

    private static void apart() {
        says("THE APART: the greatest set of which no two are JOINED, of those the least bits.");
        due("without NODES", new HolelessHouse().apart(), 0);
        due("one", Houses.graph(1, "").apart(), 1);
        due("all", Houses.graph(12, "").apart(), 4095);
        due("all JOINED", Houses.allJoined(12).apart(), 1);
        due("the greatest ahead of the least bits", Houses.graph(4, "01 02 03").apart(), 14);
        due("the least bits, not the least NODE", Houses.graph(4, "01 02 13 23").apart(), 6);
    }

    private static void treeOfCliques() {
        says("THE TREE OF CLIQUES (of a SOUND GRAPH): GREAT CLIQUES are tied one by one: each time, of the pairs one of which is tied "
            + "(the first: 0) and one not, that with the most NODES in both, of these the least tied one, then the least other one; "
            + "that is its PARENT, and what both have its PART.");
        // 3 is tied first for it has two NODES in both, then 1 beside it; only then 2, which has as much in 1 as in 3.
        dueTree(Houses.graph(7, "01 02 12 03 04 34 35 13 06 16 36"), "[7, 25, 40, 75]", "[-9/0, 3/9, 1/8, 0/3]");
        dueTree(Houses.graph(4, "10 12 13"), "[3, 6, 10]", "[-9/0, 0/2, 0/2]");
        dueTree(Houses.graph(3, ""), "[1, 2, 4]", "[-9/0, 0/0, 0/0]");
        dueTree(Houses.graph(1, ""), "[1]", "[-9/0]");
        dueTree(Houses.allJoined(12), "[4095]", "[-9/0]");
    }

    private static void dueTree(HolelessHouse x, String cliques, String want) {
        List<String> ties = new ArrayList<>();
        for (int i = 0; i < x.clique(-1); i++) ties.add(x.tree(i, 0) + "/" + x.tree(i, 1));
        same("cliques", Houses.cliques(x), cliques);
        same("PARENTS and PARTS", ties.toString(), want);
    }

    private static void parts() {
        says("A PART between a and b (not JOINED, unlike): a set of other NODES without which no way leads from a to b, of which none can be left out.");
        same("two alone: the empty set keeps them apart", Houses.parts(Houses.graph(2, ""), 0, 1), "[0]");
        same("one between", Houses.parts(Houses.graph(3, "01 12"), 0, 2), "[2]");
        same("a NODE at the side is in none", Houses.parts(Houses.graph(4, "01 12 13"), 0, 2), "[2]");
        same("all ten between", Houses.parts(bothEndsToTen(), 0, 11), "[2046]");
        due("JOINED", Houses.graph(2, "01").part(0, 1, 0), STATE);
        due("alike", Houses.graph(2, "01").part(1, 1, 0), BAD);
    }

    private static HolelessHouse bothEndsToTen() {
        return Houses.graph(12, "01 02 03 04 05 06 07 08 09 0a b1 b2 b3 b4 b5 b6 b7 b8 b9 ba");
    }

    private static void partsByBits() {
        says("PARTS 0, 1, .. by bits, the least first.");
        same("a row of nodes", Houses.parts(Houses.graph(5, "03 32 21 14"), 0, 4), "[2, 4, 8]");
        same("two rows of nodes", Houses.parts(Houses.graph(6, "01 12 25 03 34 45"), 0, 5), "[10, 12, 18, 20]");
        HolelessHouse x = Houses.graph(12, "02 23 31 04 45 51 06 67 71 08 89 91 0a ab b1");
        due("five rows of two", x.part(0, 1, -1), 32);
        due("the least", x.part(0, 1, 0), 0x554);
        due("the last", x.part(0, 1, 31), 0xaa8);
        due("none such", x.part(0, 1, 32), NONE);
    }

    private static void spans() {
        says("SPANS: an order of the GREAT CLIQUES in which those with a NODE stand side by side, for each NODE; "
            + "THE FIRST one: by numbers, place by place.");
        same("without NODES", Houses.line(new HolelessHouse()), "");
        same("one NODE", Houses.line(Houses.graph(1, "")), "0");
        same("none JOINED", Houses.line(Houses.graph(12, "")), "0123456789ab");
        same("one CLIQUE", Houses.line(Houses.allJoined(12)), "0");
        same("0 in the middle", Houses.line(Houses.graph(4, "01 12 03")), "102");
        same("0 may begin", Houses.line(Houses.graph(5, "02 23 34 41")), "0132");
        same("around one NODE in any order", Houses.line(Houses.graph(4, "30 31 32")), "012");
    }

    private static void spanOfNode() {
        says("The SPAN of a NODE: the first and the last place.");
        HolelessHouse x = Houses.graph(12, "b0 b1 b2 b3 b4 b5 b6 b7 b8 b9 ba");
        due("in all: first", x.span(11, false), 0);
        due("in all: last", x.span(11, true), 10);
        due("in one: first", x.span(10, false), 10);
        due("in one: last", x.span(10, true), 10);
        x = Houses.graph(4, "01 12 03");
        due("first, by place and not by number", x.span(2, false), 0);
        due("last, by place and not by number", x.span(1, true), 1);
    }

    private static void farOnes() {
        says("FAR: three NODES, no two JOINED, of which from each to each other a way leads on which none is the third or JOINED to the third.");
        same("fewer than three NODES", Houses.far(Houses.graph(2, "")), "");
        same("no ways", Houses.far(Houses.graph(12, "")), "");
        same("each way has one that is JOINED to the third", Houses.far(Houses.graph(4, "01 02 03")), "");
        same("three legs of one", Houses.far(Houses.graph(4, "30 31 32")), "");
        same("three legs of two", Houses.far(Houses.graph(7, "03 14 25 36 46 56")), "012");
        same("one leg of one", Houses.far(Houses.graph(6, "03 14 35 45 52")), "");
        same("ring of five", Houses.far(Houses.ring(5)), "");
        same("ring of six", Houses.far(Houses.ring(6)), "024");
        same("all JOINED", Houses.far(Houses.allJoined(12)), "");
        same("three on three sides of three", Houses.far(Houses.graph(6, "34 45 53 03 04 14 15 23 25")), "012");
    }

    private static void spansOrFar() {
        says("(THE GRAPH has SPANS exactly if it is SOUND and has no FAR ones.)");
        for (int n = 1; n <= 6; n++) eachGraph(n, x -> {
            boolean soundAndNear = x.sound() == 1 && x.far(0) == NONE;
            check.holds("SPANS of " + x.digest(), x.line(0) == NONE ? !soundAndNear : soundAndNear);
            check.holds("span() of " + x.digest(), x.span(0, true) == STATE ? !soundAndNear : soundAndNear);
        });
    }

    // ---- 4 the table

    private static void theTable() {
        rowsAndColumns();
        seating();
        firstSeating();
    }

    private static void rowsAndColumns() {
        says("ROWS 0 .. 11 of THE TABLE are sets of COLUMNS 0 .. C - 1 (C 0 .. 8; 0 at first), or missing (at first).");
        HolelessHouse x = new HolelessHouse();
        due("C at first", x.count(2), 0);
        for (int r = 0; r < 12; r++) due("ROW " + r + " at first", x.told(r), FINDING);
        due("each is missing", x.findings(NOTHING), 12);
        for (int c = 0; c <= 8; c++) {
            due("columns(" + c + ")", x.columns(c), c);
            due("the empty set", x.row(0, 0), 1);
            due("all " + c, x.row(11, (1 << c) - 1), 1);
            due("COLUMN " + c, x.row(11, 1 << c), BAD);
            due("it is as it was", x.told(11), (1 << c) - 1);
        }
        for (int r = 0; r < 12; r++) due("ROW " + r, x.row(r, r), 1);
        due("all ROWS are there", x.count(3), 12);
        due("ROW 12", x.row(12, 0), FINDING);
        due("ROW -1", x.row(-1, 0), FINDING);
    }

    private static void seating() {
        says("A SEATING: an order of the COLUMNS in which those of each ROW that is there stand side by side.");
        due("no COLUMNS: the empty order", new HolelessHouse().seatings(), 1);
        due("no COLUMNS, an empty ROW", Houses.table(0, 0).seatings(), 1);
        due("one COLUMN", Houses.table(1, 1).seatings(), 1);
        due("no ROW", Houses.table(3).seatings(), 6);
        due("ROWS with none, one and all", Houses.table(3, 0, 1, 2, 4, 7).seatings(), 6);
        due("a pair", Houses.table(3, 5).seatings(), 4);
        due("eight COLUMNS, the greatest number", Houses.table(8, 255, 0, 128).seatings(), 40320);
        due("all pairs of three", Houses.table(3, 3, 5, 6).seatings(), 0);
        HolelessHouse x = Houses.table(8, 3, 6, 12, 24, 48, 96, 192);
        due("a chain of eight", x.seatings(), 2);
        x.row(11, 129);
        due("the last ROW closes it", x.seatings(), 0);
        x.tear(11);
        due("a missing ROW asks for nothing", x.seatings(), 2);
    }

    private static void firstSeating() {
        says("THE FIRST one: by COLUMNS, place by place.");
        same("no COLUMNS", Houses.seating(new HolelessHouse()), "");
        same("one", Houses.seating(Houses.table(1)), "0");
        same("eight", Houses.seating(Houses.table(8)), "01234567");
        same("0 and 2", Houses.seating(Houses.table(3, 5)), "021");
        same("0 between others", Houses.seating(Houses.table(3, 5, 3)), "102");
        same("none", Houses.seating(Houses.table(3, 3, 5, 6)), "");
    }
}
