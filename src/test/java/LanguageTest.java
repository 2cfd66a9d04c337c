import java.io.IOException;
import java.lang.management.ManagementFactory;
import java.lang.reflect.Field;
import java.lang.reflect.Method;
import java.lang.reflect.Modifier;
import java.nio.file.Files;
import java.nio.file.Path;
import java.util.ArrayList;
import java.util.List;
import java.util.Set;
import java.util.TreeSet;
import java.util.regex.Matcher;
import java.util.regex.Pattern;
import javax.lang.model.element.ExecutableElement;

/** The face of the document, the rules of the language that can be seen in the text, and what calls make. */
public final class LanguageTest {
    private static final Path SOURCE = Path.of("src/main/java/HolelessHouse.java");
    private static final Path DOCUMENT = Path.of("../shared/DOC.md");
    private static final Check check = new Check("LanguageTest");
    private static long sum = 0;

    public static void main(String[] args) throws IOException {
        face(Files.readString(DOCUMENT));
        String text = withoutComments(Files.readString(SOURCE));
        words(text);
        methods(text);
        calls(new CallTree(SOURCE));
        classes();
        room();
        check.end();
    }

    private static String withoutComments(String text) {
        return text.replaceAll("(?s)/\\*.*?\\*/", "").replaceAll("//[^\\n]*", "");
    }

    private static void face(String document) {
        Set<String> want = new TreeSet<>();
        Matcher m = Pattern.compile("public (int|long) (\\w+)\\(([^)]*)\\);").matcher(document);
        while (m.find()) want.add(m.group(1) + " " + m.group(2) + "(" + m.group(3).replaceAll(" \\w+(,|$)", "$1") + ")");
        Set<String> got = new TreeSet<>();
        for (Method method : HolelessHouse.class.getDeclaredMethods()) {
            if (Modifier.isPrivate(method.getModifiers())) continue;
            List<String> types = new ArrayList<>();
            for (Class<?> type : method.getParameterTypes()) types.add(type.getName());
            got.add(method.getReturnType().getName() + " " + method.getName() + "(" + String.join(", ", types) + ")");
        }
        check.due("methods in the document", want.size(), 37);
        check.holds("the face is " + got + ", due is " + want, got.equals(want));
        Set<String> names = new TreeSet<>();
        for (Field field : HolelessHouse.class.getDeclaredFields()) {
            if (!Modifier.isPrivate(field.getModifiers())) names.add(field.getName());
        }
        check.holds("constants are " + names, names.equals(Set.of("BAD", "FULL", "FINDING", "STATE", "NONE")));
        check.holds("the class is final", Modifier.isFinal(HolelessHouse.class.getModifiers()));
    }

    private static void words(String text) {
        String[] barred = {"\\bthrow\\b", "\\bthrows\\b", "\\btry\\b", "\\bcatch\\b", "\\bsynchronized\\b", "\\bassert\\b", "->", "::",
            "\\bvar\\b", "\\bstatic\\s*\\{", "Exact\\(", "\\bprotected\\b", "\\bwhile\\b", "\\bSystem\\.(?!arraycopy)", "\\bhashCode\\b"};
        for (String word : barred) check.holds("no " + word, !Pattern.compile(word).matcher(text).find());
        Matcher imports = Pattern.compile("import ([^;]+);").matcher(text);
        while (imports.find()) {
            String name = imports.group(1);
            check.holds("import " + name, Set.of("java.util.Arrays", "java.util.ArrayList", "java.util.List").contains(name));
        }
        check.holds("no package", !Pattern.compile("\\bpackage\\b").matcher(text).find());
        // Rows are made with the object alone: 'new' stands in fields and in the constructor of Benches.
        Matcher made = Pattern.compile("\\n( *)([^\\n]*\\bnew\\b[^\\n]*)").matcher(text);
        while (made.find()) {
            String line = made.group(2);
            check.holds("made outside of a constructor: " + line, line.startsWith("private final") || line.matches("(notes|places) = .*"));
        }
    }

    private static void methods(String text) {
        String[] lines = text.split("\n");
        Pattern head = Pattern.compile("^ +(public|private)[^=;]*\\b(\\w+)\\(([^)]*)\\) \\{$");
        Set<String> open = new TreeSet<>();
        for (Method method : HolelessHouse.class.getDeclaredMethods()) {
            if (!Modifier.isPrivate(method.getModifiers())) open.add(method.getName());
        }
        int seen = 0;
        for (int i = 0; i < lines.length; i++) {
            Matcher m = head.matcher(lines[i]);
            if (!m.find()) continue;
            seen++;
            String end = lines[i].substring(0, lines[i].indexOf(m.group(1))) + "}";
            int length = 1;
            while (!lines[i + length].equals(end)) length++;
            check.holds(m.group(2) + " is " + length + " lines long", length <= 40);
            check.holds(m.group(2) + " takes at most seven", m.group(3).split(",").length <= 7);
            boolean named = m.group(1).equals("private") && open.contains(m.group(2));
            check.holds("private " + m.group(2) + " has a name of its own", !named);
        }
        check.holds("methods were seen: " + seen, seen > 80);
    }

    private static void calls(CallTree tree) {
        check.holds("methods were seen: " + tree.methods().size(), tree.methods().size() > 80);
        Set<String> library = Set.of("Integer.bitCount", "Integer.numberOfLeadingZeros", "Integer.numberOfTrailingZeros",
            "Math.max", "Math.min", "System.arraycopy", "Arrays.fill");
        for (String name : tree.fromLibrary()) check.holds("rule 4: " + name, library.contains(name));
        Set<String> recursive = new TreeSet<>();
        for (ExecutableElement method : tree.methods()) {
            List<String> row = new ArrayList<>();
            for (ExecutableElement open : tree.longestFrom(method)) row.add(CallTree.name(open));
            check.holds("rule 11, at most eight deep: " + row, row.size() <= 8);
            if (!tree.isRecursive(method)) continue;
            recursive.add(CallTree.name(method));
            check.holds("rule 8, private and static: " + CallTree.name(method), CallTree.isPrivateStatic(method));
        }
        // Each of these ends at a number of nodes, places or columns; one more has to be looked at before it stands here.
        Set<String> looked = Set.of("Benches.seatsRest", "Cliques.gather", "LeastSearch.leastFrom", "Paint.paints", "Ring.closes");
        check.holds("rule 8, methods that call themselves: " + recursive, recursive.equals(looked));
    }

    private static void classes() {
        Class<?>[] inside = HolelessHouse.class.getDeclaredClasses();
        check.holds("at most twelve classes", inside.length + 1 <= 12);
        looksRight(HolelessHouse.class);
        for (Class<?> c : inside) {
            check.holds(c.getName() + " is private and static", Modifier.isPrivate(c.getModifiers()) && Modifier.isStatic(c.getModifiers()));
            looksRight(c);
        }
    }

    private static void looksRight(Class<?> c) {
        int fields = 0;
        for (Field field : c.getDeclaredFields()) {
            boolean fixed = Modifier.isStatic(field.getModifiers());
            if (!fixed) fields++;
            check.holds(c.getName() + "." + field.getName() + " is final if static", !fixed || Modifier.isFinal(field.getModifiers()));
        }
        check.holds(c.getName() + " has " + fields + " fields", fields <= 20);
    }

    /** The calls of one run share a room of 7.3 million elements; so no call makes anything, and an object is small. */
    private static void room() {
        var bean = (com.sun.management.ThreadMXBean) ManagementFactory.getThreadMXBean();
        long calls = 0;
        long object = 0;
        // What the machine makes for itself at first is in the early rounds alone.
        for (int round = 0; round < 5; round++) {
            long before = bean.getCurrentThreadAllocatedBytes();
            HolelessHouse x = new HolelessHouse();
            long between = bean.getCurrentThreadAllocatedBytes();
            callAll(x, 1);
            calls = bean.getCurrentThreadAllocatedBytes() - between;
            object = between - before;
        }
        check.due("bytes made by calls", calls, 0);
        check.holds("an object takes " + object + " bytes", object < 48_000);
    }

    private static void callAll(HolelessHouse x, int step) {
        x.nodes(12);
        for (int a = 0; a < 12; a++) sum += x.join(a, (a + step) % 12, true) + x.joined(a) + x.kind(a) + x.degree(a, 0);
        for (int i = -1; i < 13; i++) sum += x.hole(i) + x.clique(i) + x.colour(i) + x.tree(i, 0) + x.line(i) + x.span(i, true) + x.far(i);
        for (int i = 0; i < 12; i++) sum += x.draft(i) + x.part(0, 6, i) + x.degree(i, 3);
        sum += x.sound() + x.take() + x.rule(0) + x.rule(1) + x.rule(2) + x.least(0) + x.least(1) + x.order(1) + x.about(1) + x.fill();
        sum += x.greatest() + x.sort(9) + x.apart() + x.turn() + x.columns(8) + x.row(0, 7) + x.row(1, 12) + x.told(0) + x.tear(1);
        sum += x.copy(0, 1, 5) + x.seatings() + x.seat(3) + x.fromTable() + x.count(1) + x.finding() + x.findings(2) + x.digest();
        sum += x.tree(0, 1) + x.span(0, false) + x.line(0) + x.columns(-1) + x.told(99);
    }
}
