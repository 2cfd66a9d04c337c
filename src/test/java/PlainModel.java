import java.util.ArrayList;
import java.util.Arrays;
import java.util.List;

/**
 * The document again, near to its words and slow. Two things are not tried out one by one, for they would take too long:
 * the least over all orders of more than six nodes (by sets of those gone), and that there are no spans with more than
 * seven cliques (the document's word: a hole or far ones). Where the document leaves a choice this model reads it as the
 * class does, so it says nothing about those choices.
 */
final class PlainModel {
    static final int BAD = -1, FINDING = -3, STATE = -4, NONE = -9;

    int n = 0;
    boolean[][] edge = new boolean[12][12];
    List<Integer> order = null;
    List<Integer> draft = new ArrayList<>();
    int c = 0;
    Integer[] rows = new Integer[12];
    int latest = 0;
    int[] times = new int[5];
    private List<Integer> cliqueMemo = null;
    private List<Integer> holeMemo = null;
    private List<Integer> spanMemo = null;
    private int[] colourMemo = null;
    private boolean holeKnown = false;
    private boolean spansKnown = false;
    private List<Integer> seatMemo = null;
    private int seatWays = 0;
    private final List<List<Integer>> leastMemo = new ArrayList<>();

    private boolean node(int a) {
        return a >= 0 && a < n;
    }

    private int found(int f) {
        latest = f;
        times[f]++;
        return FINDING;
    }

    private void changed() {
        order = null;
        cliqueMemo = null;
        colourMemo = null;
        holeKnown = false;
        spansKnown = false;
        leastMemo.clear();
    }

    // ---- 1 the graph

    int nodes(int k) {
        if (k < 0 || k > 12) return BAD;
        n = k;
        edge = new boolean[12][12];
        draft.removeIf(a -> !node(a));
        changed();
        return n;
    }

    int join(int a, int b, boolean is) {
        if (!node(a) || !node(b) || a == b) return BAD;
        int was = edge[a][b] ? 1 : 0;
        edge[a][b] = is;
        edge[b][a] = is;
        changed();
        return was;
    }

    int joined(int a) {
        if (!node(a)) return BAD;
        int bits = 0;
        for (int b = 0; b < n; b++) if (edge[a][b]) bits |= 1 << b;
        return bits;
    }

    private List<Integer> members(int bits) {
        List<Integer> list = new ArrayList<>();
        for (int v = 0; v < 12; v++) if ((bits >> v & 1) == 1) list.add(v);
        return list;
    }

    private boolean allJoined(boolean[][] e, List<Integer> set) {
        for (int a : set) for (int b : set) if (a != b && !e[a][b]) return false;
        return true;
    }

    private boolean noneJoined(List<Integer> set) {
        for (int a : set) for (int b : set) if (edge[a][b]) return false;
        return true;
    }

    private boolean is(int a, int kind) {
        boolean tight = allJoined(edge, members(joined(a)));
        int others = members(joined(a)).size();
        switch (kind) {
            case 0: return true;
            case 1: return tight;
            case 2: return tight && others == 0;
            default: return others == n - 1 && !tight;
        }
    }

    int kind(int a) {
        if (!node(a)) return BAD;
        for (int k : new int[] {3, 2, 1}) if (is(a, k)) return k;
        return 0;
    }

    int degree(int a, int kind) {
        if (!node(a) || kind < 0 || kind > 3) return BAD;
        if (!is(a, kind)) return found(3);
        return members(joined(a)).size();
    }

    private List<Integer> ringOf(int bits) {
        List<Integer> set = members(bits);
        if (set.size() < 4) return null;
        for (int a : set) {
            int beside = 0;
            for (int b : set) if (edge[a][b]) beside++;
            if (beside != 2) return null;
        }
        List<Integer> ring = new ArrayList<>();
        int at = set.get(0);
        while (at >= 0) {
            ring.add(at);
            int next = -1;
            for (int b : set) if (next < 0 && edge[at][b] && !ring.contains(b)) next = b;
            at = next;
        }
        return ring.size() == set.size() ? ring : null;
    }

    private static boolean ahead(List<Integer> a, List<Integer> b) {
        for (int i = 0; i < a.size() && i < b.size(); i++) {
            if (!a.get(i).equals(b.get(i))) return a.get(i) < b.get(i);
        }
        return false;
    }

    private List<Integer> theHole() {
        if (holeKnown) return holeMemo;
        List<Integer> best = null;
        for (int bits = 0; bits < 1 << n; bits++) {
            List<Integer> ring = ringOf(bits);
            if (ring == null) continue;
            if (best == null || ring.size() < best.size() || ring.size() == best.size() && ahead(ring, best)) best = ring;
        }
        holeMemo = best;
        holeKnown = true;
        return best;
    }

    int sound() {
        return theHole() == null ? 1 : 0;
    }

    int hole(int i) {
        return placeOf(theHole(), i);
    }

    private static int placeOf(List<Integer> list, int i) {
        return list != null && i >= 0 && i < list.size() ? list.get(i) : NONE;
    }

    int fromTable() {
        nodes(c);
        for (int a = 0; a < n; a++) for (int b = 0; b < n; b++) for (Integer r : rows) {
            if (a != b && r != null && (r >> a & 1) == 1 && (r >> b & 1) == 1) edge[a][b] = true;
        }
        return n;
    }

    int turn() {
        for (int a = 0; a < n; a++) for (int b = 0; b < n; b++) if (a != b) edge[a][b] = !edge[a][b];
        changed();
        return count(1);
    }

    // ---- 2 orders

    private boolean[][] copyOfEdges() {
        boolean[][] e = new boolean[12][];
        for (int a = 0; a < 12; a++) e[a] = edge[a].clone();
        return e;
    }

    private List<Integer> beside(boolean[][] e, int v) {
        List<Integer> list = new ArrayList<>();
        for (int u = 0; u < n; u++) if (e[v][u]) list.add(u);
        return list;
    }

    private int lack(boolean[][] e, int v) {
        List<Integer> near = beside(e, v);
        int lack = 0;
        for (int a : near) for (int b : near) if (a < b && !e[a][b]) lack++;
        return lack;
    }

    /** Lets v go; pairs of the fill are marked in filled, if there is one. */
    private void go(boolean[][] e, int v, boolean[][] filled) {
        List<Integer> near = beside(e, v);
        for (int a : near) for (int b : near) if (a != b && !e[a][b]) {
            e[a][b] = true;
            if (filled != null) filled[a][b] = true;
        }
        for (int u = 0; u < n; u++) {
            e[u][v] = false;
            e[v][u] = false;
        }
    }

    private int[] fillAndWidth(List<Integer> row, boolean[][] filled) {
        boolean[][] e = copyOfEdges();
        int fill = 0;
        int width = 0;
        for (int v : row) {
            fill += lack(e, v);
            width = Math.max(width, beside(e, v).size());
            go(e, v, filled);
        }
        return new int[] {fill, width};
    }

    int draft(int a) {
        if (!node(a) || draft.contains(a)) return BAD;
        draft.add(a);
        return draft.size();
    }

    int take() {
        List<Integer> sorted = new ArrayList<>(draft);
        sorted.sort(null);
        List<Integer> all = new ArrayList<>();
        for (int v = 0; v < n; v++) all.add(v);
        List<Integer> row = draft;
        draft = new ArrayList<>();
        if (!sorted.equals(all)) return STATE;
        order = row;
        return about(0);
    }

    int rule(int r) {
        if (r < 0 || r > 2) return BAD;
        boolean[][] e = copyOfEdges();
        List<Integer> row = new ArrayList<>();
        while (row.size() < n) {
            int best = -1;
            int bestPrice = 1000;
            for (int v = 0; v < n; v++) {
                if (row.contains(v)) continue;
                int price = r == 0 ? (allJoined(e, beside(e, v)) ? 0 : 1) : r == 1 ? beside(e, v).size() : lack(e, v);
                if (price < bestPrice) {
                    best = v;
                    bestPrice = price;
                }
            }
            go(e, best, null);
            row.add(best);
        }
        order = row;
        return about(0);
    }

    int least(int what) {
        if (what < 0 || what > 1) return BAD;
        if (leastMemo.isEmpty()) {
            leastMemo.add(firstLeast(0));
            leastMemo.add(firstLeast(1));
        }
        order = leastMemo.get(what);
        return about(what);
    }

    private List<Integer> firstLeast(int what) {
        return n <= 6 ? leastByRows(what) : leastBySets(what);
    }

    private List<Integer> leastByRows(int what) {
        List<List<Integer>> all = new ArrayList<>();
        permute(new ArrayList<>(), n, all);
        List<Integer> best = null;
        int bestValue = 1000;
        for (List<Integer> row : all) {
            int value = fillAndWidth(row, null)[what];
            if (value < bestValue) {
                best = row;
                bestValue = value;
            }
        }
        return best;
    }

    private static void permute(List<Integer> begun, int k, List<List<Integer>> all) {
        if (begun.size() == k) {
            all.add(new ArrayList<>(begun));
            return;
        }
        for (int v = 0; v < k; v++) {
            if (begun.contains(v)) continue;
            begun.add(v);
            permute(begun, k, all);
            begun.remove(begun.size() - 1);
        }
    }

    /** Two of those left are joined exactly if a way leads from one to the other over those gone. */
    private int nearOver(int gone, int v) {
        int seen = 1 << v;
        int met = 0;
        List<Integer> todo = new ArrayList<>(List.of(v));
        while (!todo.isEmpty()) {
            int at = todo.remove(todo.size() - 1);
            for (int u = 0; u < n; u++) {
                if (!edge[at][u] || (seen >> u & 1) == 1) continue;
                seen |= 1 << u;
                if ((gone >> u & 1) == 1) todo.add(u);
                else met |= 1 << u;
            }
        }
        return met;
    }

    private List<Integer> leastBySets(int what) {
        int all = (1 << n) - 1;
        int[][] price = new int[all + 1][n];
        int[] best = new int[all + 1];
        for (int gone = all - 1; gone >= 0; gone--) {
            int[] near = new int[n];
            for (int v = 0; v < n; v++) if ((gone >> v & 1) == 0) near[v] = nearOver(gone, v);
            best[gone] = 1000;
            for (int v = 0; v < n; v++) {
                if ((gone >> v & 1) == 1) continue;
                int lack = 0;
                for (int u : members(near[v])) lack += Integer.bitCount(near[v] & ~near[u]) - 1;
                price[gone][v] = what == 0 ? lack / 2 : Integer.bitCount(near[v]);
                int after = best[gone | 1 << v];
                best[gone] = Math.min(best[gone], what == 0 ? price[gone][v] + after : Math.max(price[gone][v], after));
            }
        }
        List<Integer> row = new ArrayList<>();
        int gone = 0;
        int bound = best[0];
        while (row.size() < n) {
            for (int v = 0; v < n; v++) {
                if ((gone >> v & 1) == 1) continue;
                int p = price[gone][v];
                int after = best[gone | 1 << v];
                if ((what == 0 ? p + after : Math.max(p, after)) > bound) continue;
                row.add(v);
                gone |= 1 << v;
                if (what == 0) bound -= p;
                break;
            }
        }
        return row;
    }

    int order(int i) {
        return placeOf(order, i);
    }

    int about(int what) {
        if (what < 0 || what > 2) return BAD;
        if (order == null) return NONE;
        int[] both = fillAndWidth(order, null);
        return what == 2 ? (both[0] == 0 ? 1 : 0) : both[what];
    }

    int fill() {
        if (order == null) return NONE;
        boolean[][] filled = new boolean[12][12];
        int pairs = fillAndWidth(order, filled)[0];
        for (int a = 0; a < n; a++) for (int b = 0; b < n; b++) if (filled[a][b]) edge[a][b] = true;
        changed();
        return pairs;
    }

    // ---- 3 cliques, colours, parts, spans

    List<Integer> cliques() {
        if (cliqueMemo != null) return cliqueMemo;
        List<Integer> list = new ArrayList<>();
        for (int bits = 1; bits < 1 << n; bits++) {
            List<Integer> set = members(bits);
            if (!allJoined(edge, set)) continue;
            boolean great = true;
            for (int v = 0; v < n; v++) {
                List<Integer> more = new ArrayList<>(set);
                more.add(v);
                if (!set.contains(v) && allJoined(edge, more)) great = false;
            }
            if (great) list.add(bits);
        }
        cliqueMemo = list;
        return list;
    }

    int clique(int i) {
        return i == -1 ? cliques().size() : placeOf(cliques(), i);
    }

    int greatest() {
        int most = 0;
        for (int bits = 1; bits < 1 << n; bits++) if (allJoined(edge, members(bits))) most = Math.max(most, Integer.bitCount(bits));
        return most;
    }

    int sort(int bits) {
        if (bits <= 0 || bits >= 1 << n) return BAD;
        List<Integer> set = members(bits);
        if (set.size() == 1) return 3;
        return allJoined(edge, set) ? 1 : noneJoined(set) ? 2 : 0;
    }

    private boolean paint(int[] colours, int v, int k) {
        if (v == n) return true;
        for (int colour = 0; colour < k; colour++) {
            boolean free = true;
            for (int u = 0; u < v; u++) if (edge[u][v] && colours[u] == colour) free = false;
            colours[v] = colour;
            if (free && paint(colours, v + 1, k)) return true;
        }
        return false;
    }

    int colour(int a) {
        if (a != -1 && !node(a)) return BAD;
        if (colourMemo == null) {
            int[] colours = new int[13];
            while (!paint(colours, 0, colours[12])) colours[12]++;
            colourMemo = colours;
        }
        return a == -1 ? colourMemo[12] : colourMemo[a];
    }

    int apart() {
        int best = 0;
        for (int bits = 0; bits < 1 << n; bits++) {
            if (Integer.bitCount(bits) > Integer.bitCount(best) && noneJoined(members(bits))) best = bits;
        }
        return best;
    }

    int tree(int i, int what) {
        List<Integer> all = cliques();
        if (i < 0 || i >= all.size() || what < 0 || what > 1) return BAD;
        if (sound() == 0) return STATE;
        int[] parent = new int[all.size()];
        Arrays.fill(parent, -2);
        parent[0] = NONE;
        for (int k = 1; k < all.size(); k++) {
            int bestTied = -1;
            int bestOther = -1;
            int most = -1;
            for (int tied = 0; tied < all.size(); tied++) for (int other = 0; other < all.size(); other++) {
                if (parent[tied] == -2 || parent[other] != -2) continue;
                int both = Integer.bitCount(all.get(tied) & all.get(other));
                boolean first = both == most && (tied < bestTied || tied == bestTied && other < bestOther);
                if (both > most || first) {
                    most = both;
                    bestTied = tied;
                    bestOther = other;
                }
            }
            parent[bestOther] = bestTied;
        }
        if (what == 0) return parent[i];
        return i == 0 ? 0 : all.get(i) & all.get(parent[i]);
    }

    /** Whether a way leads from a to b with no node of the set on it. */
    private boolean way(int a, int b, List<Integer> without) {
        boolean[] seen = new boolean[12];
        List<Integer> todo = new ArrayList<>(List.of(a));
        seen[a] = true;
        while (!todo.isEmpty()) {
            int at = todo.remove(todo.size() - 1);
            if (at == b) return true;
            for (int u = 0; u < n; u++) {
                if (edge[at][u] && !seen[u] && !without.contains(u)) {
                    seen[u] = true;
                    todo.add(u);
                }
            }
        }
        return false;
    }

    private boolean isPart(int a, int b, List<Integer> set) {
        if (set.contains(a) || set.contains(b) || way(a, b, set)) return false;
        for (int x : set) {
            List<Integer> less = new ArrayList<>(set);
            less.remove(Integer.valueOf(x));
            if (!way(a, b, less)) return false;
        }
        return true;
    }

    List<Integer> parts(int a, int b) {
        List<Integer> list = new ArrayList<>();
        for (int bits = 0; bits < 1 << n; bits++) if (isPart(a, b, members(bits))) list.add(bits);
        return list;
    }

    int part(int a, int b, int i) {
        if (!node(a) || !node(b) || a == b) return BAD;
        if (edge[a][b]) return STATE;
        List<Integer> list = parts(a, b);
        return i == -1 ? list.size() : placeOf(list, i);
    }

    /** Whether no column of a set stands behind one that is not of it and behind another one of it, or has still to. */
    private static boolean sideBySide(List<Integer> begun, List<Integer> set) {
        int met = 0;
        for (int x : begun) {
            if (set.contains(x)) met++;
            else if (met > 0 && met < set.size()) return false;
        }
        return true;
    }

    private static List<Integer> firstLine(List<Integer> begun, int k, List<List<Integer>> sets) {
        for (List<Integer> set : sets) if (!sideBySide(begun, set)) return null;
        if (begun.size() == k) return new ArrayList<>(begun);
        for (int v = 0; v < k; v++) {
            if (begun.contains(v)) continue;
            begun.add(v);
            List<Integer> whole = firstLine(begun, k, sets);
            begun.remove(begun.size() - 1);
            if (whole != null) return whole;
        }
        return null;
    }

    private List<Integer> spans() {
        if (!spansKnown) spanMemo = firstSpans();
        spansKnown = true;
        return spanMemo;
    }

    private List<Integer> firstSpans() {
        // The search below would be too long for many cliques; that there are no spans then is the document's word.
        if (cliques().size() > 7 && (sound() == 0 || far(0) != NONE)) return null;
        List<List<Integer>> sets = new ArrayList<>();
        for (int v = 0; v < n; v++) {
            List<Integer> with = new ArrayList<>();
            for (int i = 0; i < cliques().size(); i++) if ((cliques().get(i) >> v & 1) == 1) with.add(i);
            sets.add(with);
        }
        return firstLine(new ArrayList<>(), cliques().size(), sets);
    }

    int line(int i) {
        return placeOf(spans(), i);
    }

    int span(int a, boolean end) {
        if (!node(a)) return BAD;
        List<Integer> row = spans();
        if (row == null) return STATE;
        int first = -1;
        int last = -1;
        for (int i = 0; i < row.size(); i++) {
            if ((cliques().get(row.get(i)) >> a & 1) == 0) continue;
            if (first < 0) first = i;
            last = i;
        }
        return end ? last : first;
    }

    private boolean clearWay(int a, int b, int third) {
        List<Integer> without = beside(edge, third);
        without.add(third);
        return way(a, b, without);
    }

    int far(int i) {
        for (int a = 0; a < n; a++) for (int b = a + 1; b < n; b++) for (int d = b + 1; d < n; d++) {
            if (edge[a][b] || edge[a][d] || edge[b][d]) continue;
            if (clearWay(a, b, d) && clearWay(a, d, b) && clearWay(b, d, a)) return placeOf(List.of(a, b, d), i);
        }
        return NONE;
    }

    // ---- 4 the table

    int columns(int k) {
        if (k > 8) return BAD;
        if (k < 0) return found(4);
        c = k;
        rows = new Integer[12];
        seatMemo = null;
        return c;
    }

    int row(int r, int bits) {
        if (bits < 0 || bits >= 1 << c) return BAD;
        if (r < 0 || r > 11) return found(2);
        rows[r] = bits;
        seatMemo = null;
        return 1;
    }

    int told(int r) {
        if (r < 0 || r > 11) return found(2);
        return rows[r] == null ? found(1) : rows[r];
    }

    int tear(int r) {
        if (r < 0 || r > 11) return found(2);
        if (rows[r] == null) return found(1);
        rows[r] = null;
        seatMemo = null;
        return 1;
    }

    int copy(int r, int to, int k) {
        if (r < 0 || to < 0 || k < 0 || (long) r + k > 12 || (long) to + k > 12) return found(2);
        Integer[] taken = rows.clone();
        for (int i = 0; i < k; i++) rows[to + i] = taken[r + i];
        seatMemo = null;
        return 1;
    }

    private void workOutSeats() {
        if (seatMemo != null) return;
        List<List<Integer>> sets = new ArrayList<>();
        for (Integer r : rows) if (r != null) sets.add(members(r));
        List<List<Integer>> all = new ArrayList<>();
        permute(new ArrayList<>(), c, all);
        seatWays = 0;
        seatMemo = new ArrayList<>();
        for (List<Integer> seating : all) {
            boolean fits = true;
            for (List<Integer> set : sets) if (!sideBySide(seating, set)) fits = false;
            if (fits && seatWays == 0) seatMemo = seating;
            if (fits) seatWays++;
        }
    }

    int seatings() {
        workOutSeats();
        return seatWays;
    }

    int seat(int i) {
        workOutSeats();
        return placeOf(seatMemo, i);
    }

    // ---- 5 what is told

    int count(int what) {
        int pairs = 0;
        for (int a = 0; a < n; a++) for (int b = 0; b < a; b++) if (edge[a][b]) pairs++;
        int there = 0;
        for (Integer r : rows) if (r != null) there++;
        int[] answers = {n, pairs, c, there, draft.size()};
        return what >= 0 && what < 5 ? answers[what] : BAD;
    }

    int finding() {
        return latest;
    }

    int findings(int f) {
        return f >= 1 && f <= 4 ? times[f] : BAD;
    }

    long digest() {
        List<Integer> values = new ArrayList<>();
        values.add(n);
        for (int v = 0; v < n; v++) values.add(joined(v));
        if (order != null) values.addAll(order);
        values.add(c);
        for (Integer r : rows) values.add(r == null ? -1 : r);
        values.addAll(draft);
        long h = 17;
        for (int v : values) h = 31 * h + v;
        return h;
    }
}
