import java.util.ArrayList;
import java.util.List;
import java.util.function.Consumer;
import java.util.function.Function;
import java.util.function.Supplier;

/**
 * What was asked before a change has no part in what is answered after it: an object that was asked answers as one that was not.
 * Which answer is right is for the other tests to say.
 */
public final class ChangeTest {
    private static final Check check = new Check("ChangeTest");

    private record Question(String name, Function<HolelessHouse, String> asked) {
    }

    private record Change(String name, Consumer<HolelessHouse> done) {
    }

    public static void main(String[] args) {
        int start = 0;
        for (Supplier<HolelessHouse> maker : starts()) {
            start++;
            for (Change change : changes()) {
                for (Question before : questions()) for (Question after : questions()) compare(start, maker, change, before, after);
            }
        }
        check.end();
    }

    private static void compare(int start, Supplier<HolelessHouse> maker, Change change, Question before, Question after) {
        HolelessHouse asked = maker.get();
        HolelessHouse plain = maker.get();
        before.asked().apply(asked);
        change.done().accept(asked);
        change.done().accept(plain);
        String got = after.asked().apply(asked);
        String want = after.asked().apply(plain);
        String run = "start " + start + ", " + before.name() + ", " + change.name() + ", " + after.name();
        check.holds(run + ": '" + got + "', due is '" + want + "'", got.equals(want));
    }

    private static List<Supplier<HolelessHouse>> starts() {
        return List.of(
            HolelessHouse::new,
            () -> withTable(Houses.ring(5)),
            () -> withTable(Houses.allJoined(6)),
            () -> withTable(Houses.graph(7, "01 12 03 34 05 56")),
            () -> withTable(Houses.graph(7, "01 12 20 23 34 42 45")),
            // Turned, this one has more great cliques than there are places for spans.
            () -> withTable(Houses.graph(12, "01 23 45 67 89 ab")));
    }

    private static HolelessHouse withTable(HolelessHouse x) {
        x.columns(5);
        x.row(0, 3);
        x.row(1, 6);
        x.row(11, 28);
        return x;
    }

    private static List<Change> changes() {
        return List.of(
            new Change("nodes(0)", x -> x.nodes(0)),
            new Change("nodes(5)", x -> x.nodes(5)),
            new Change("nodes(13)", x -> x.nodes(13)),
            new Change("join", x -> x.join(0, 2, true)),
            new Change("join away", x -> x.join(1, 0, false)),
            new Change("fromTable()", HolelessHouse::fromTable),
            new Change("turn()", HolelessHouse::turn),
            new Change("join and turn()", x -> {
                x.join(0, 3, true);
                x.turn();
            }),
            new Change("rule(0) and fill()", x -> {
                x.rule(0);
                x.fill();
            }),
            new Change("columns(0)", x -> x.columns(0)),
            new Change("columns(5)", x -> x.columns(5)),
            new Change("row(2, 17)", x -> x.row(2, 17)),
            new Change("row(0, 5)", x -> x.row(0, 5)),
            new Change("tear(11)", x -> x.tear(11)),
            new Change("copy(2, 0, 2)", x -> x.copy(2, 0, 2)),
            new Change("copy(0, 11, 1)", x -> x.copy(0, 11, 1)));
    }

    private static List<Question> questions() {
        return List.of(
            new Question("sound()", x -> "" + x.sound()),
            new Question("hole()", Houses::hole),
            new Question("least(0)", x -> x.least(0) + Houses.order(x)),
            new Question("least(1)", x -> x.least(1) + Houses.order(x)),
            new Question("rule(2)", x -> x.rule(2) + Houses.order(x)),
            new Question("clique()", Houses::cliques),
            new Question("greatest()", x -> "" + x.greatest()),
            new Question("colour()", ChangeTest::colours),
            new Question("apart()", x -> "" + x.apart()),
            new Question("tree()", ChangeTest::tree),
            new Question("part(0, 3)", x -> Houses.parts(x, 0, 3)),
            new Question("part(3, 0)", x -> Houses.parts(x, 3, 0)),
            new Question("part(0, 4)", x -> Houses.parts(x, 0, 4)),
            new Question("part(2, 4)", x -> Houses.parts(x, 2, 4)),
            new Question("line()", Houses::line),
            new Question("span()", ChangeTest::spans),
            new Question("far()", Houses::far),
            new Question("seatings()", x -> "" + x.seatings()),
            new Question("seat()", Houses::seating),
            new Question("count(1)", x -> "" + x.count(1)));
    }

    private static String colours(HolelessHouse x) {
        List<Integer> colours = new ArrayList<>();
        for (int a = -1; a < x.count(0); a++) colours.add(x.colour(a));
        return colours.toString();
    }

    private static String tree(HolelessHouse x) {
        List<Integer> ties = new ArrayList<>();
        for (int i = 0; i <= 12; i++) {
            ties.add(x.tree(i, 0));
            ties.add(x.tree(i, 1));
        }
        return ties.toString();
    }

    private static String spans(HolelessHouse x) {
        List<Integer> spans = new ArrayList<>();
        for (int a = 0; a < x.count(0); a++) {
            spans.add(x.span(a, false));
            spans.add(x.span(a, true));
        }
        return spans.toString();
    }
}
