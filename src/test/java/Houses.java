import java.util.ArrayList;
import java.util.List;
import java.util.TreeSet;
import java.util.function.IntUnaryOperator;

/** Houses as the tests need them, what they tell as one text, and numbers that are wrong. */
final class Houses {
    static final int BAD = -1, FINDING = -3, STATE = -4, NONE = -9;
    static final int LOW = Integer.MIN_VALUE, HIGH = Integer.MAX_VALUE;

    // Near the bounds of the document, where shifts wrap around, and at the ends of int.
    private static final int[] SUSPECTS = {LOW, LOW + 1, LOW + 32, -4096, -64, -33, -32, -31, -13, -12, -2, -1, 0, 1, 2, 3, 4, 5,
        6, 7, 8, 9, 10, 11, 12, 13, 15, 16, 31, 32, 33, 63, 64, 255, 256, 4095, 4096, 1 << 30, HIGH - 1, HIGH};

    private Houses() {
    }

    /** A graph by its pairs, two digits in base 12 each (a for 10, b for 11). */
    static HolelessHouse graph(int n, String pairs) {
        HolelessHouse x = new HolelessHouse();
        x.nodes(n);
        joinAll(x, pairs);
        return x;
    }

    static void joinAll(HolelessHouse x, String pairs) {
        for (String pair : pairs.split(" ")) {
            if (pair.length() == 2) {
                x.join(Character.digit(pair.charAt(0), 12), Character.digit(pair.charAt(1), 12), true);
            }
        }
    }

    static HolelessHouse ring(int n) {
        HolelessHouse x = graph(n, "");
        for (int v = 0; v < n; v++) x.join(v, (v + 1) % n, true);
        return x;
    }

    static HolelessHouse allJoined(int n) {
        HolelessHouse x = graph(n, "");
        x.turn();
        return x;
    }

    static HolelessHouse table(int c, int... rows) {
        HolelessHouse x = new HolelessHouse();
        x.columns(c);
        for (int r = 0; r < rows.length; r++) x.row(r, rows[r]);
        return x;
    }

    static void draftAll(HolelessHouse x, int... nodes) {
        for (int a : nodes) x.draft(a);
    }

    /** Suspects that are not among from .. to. */
    static List<Integer> outside(int from, int to) {
        TreeSet<Integer> wrong = new TreeSet<>(List.of(to + 1));
        for (int v : SUSPECTS) if (v < from || v > to) wrong.add(v);
        return new ArrayList<>(wrong);
    }

    static String order(HolelessHouse x) {
        return row(x::order);
    }

    static String hole(HolelessHouse x) {
        return row(x::hole);
    }

    static String line(HolelessHouse x) {
        return row(x::line);
    }

    static String seating(HolelessHouse x) {
        return row(x::seat);
    }

    static String far(HolelessHouse x) {
        return row(x::far);
    }

    private static String row(IntUnaryOperator places) {
        StringBuilder row = new StringBuilder();
        for (int i = 0; i < 13 && places.applyAsInt(i) != NONE; i++) row.append(Character.forDigit(places.applyAsInt(i), 12));
        return row.toString();
    }

    static String cliques(HolelessHouse x) {
        List<Integer> sets = new ArrayList<>();
        for (int i = 0; i < 81 && x.clique(i) != NONE; i++) sets.add(x.clique(i));
        return sets.toString();
    }

    static String parts(HolelessHouse x, int a, int b) {
        List<Integer> sets = new ArrayList<>();
        for (int i = 0; i < 252 && x.part(a, b, i) >= 0; i++) sets.add(x.part(a, b, i));
        return sets.toString();
    }

    /** All that can be seen without a refusal, but for finding() and findings(). */
    static String seen(HolelessHouse x) {
        StringBuilder all = new StringBuilder();
        for (int what = 0; what < 5; what++) all.append(x.count(what)).append(' ');
        for (int a = 0; a < x.count(0); a++) all.append(x.joined(a)).append(' ').append(x.kind(a)).append(' ');
        for (int what = 0; what < 3; what++) all.append(x.about(what)).append(' ');
        all.append(order(x)).append(' ').append(hole(x)).append(' ').append(cliques(x)).append(' ').append(line(x));
        all.append(' ').append(seating(x)).append(' ').append(x.seatings()).append(' ').append(x.digest());
        return all.toString();
    }

    static String findings(HolelessHouse x) {
        StringBuilder all = new StringBuilder().append(x.finding());
        for (int f = 1; f <= 4; f++) all.append(' ').append(x.findings(f));
        return all.toString();
    }
}
