import java.util.*;

/** Promises 8 to 11 by chance: small crowded sheets are joined by a plain model, and by the mill. */
public final class JoinChanceTest {
    private static final Random random = new Random(17);

    public static void main(String[] args) {
        int most = 0;
        for (int n = 0; n < 2500; n++) {
            most = Math.max(most, one());
        }
        System.out.println("up to " + most + " remarks");
        Bench.finish("JoinChanceTest");
    }

    private static final class Sheet {
        int number;
        int parent;
        String name;
        String of;
        List<Integer> copies = new ArrayList<>();
        boolean drawn;
        int original;
        int copy;
    }

    private record Thing(int sheet, int x, int y, int x2, int y2, int name, boolean port, int symbol) {
    }

    private static final List<Sheet> sheets = new ArrayList<>();
    private static final List<Thing> wires = new ArrayList<>();
    private static final List<Thing> labels = new ArrayList<>();
    private static final List<Thing> terminals = new ArrayList<>();
    private static final List<Thing> junctions = new ArrayList<>();
    private static final StringBuilder text = new StringBuilder();
    private static int symbols;

    private static int one() {
        sheets.clear();
        wires.clear();
        labels.clear();
        terminals.clear();
        junctions.clear();
        symbols = 0;
        text.setLength(0);
        text.append("design 3\n");
        int count = 1 + random.nextInt(4);
        for (int n = 0; n < count; n++) {
            addSheet(-1, 1);
        }
        if (text.length() > 4000) {
            return 0;
        }
        Bench b = new Bench();
        int objects = b.sheets(1, text.toString());
        if (objects < 0) {
            return 0;
        }
        return compare(b);
    }

    private static void addSheet(int parent, int depth) {
        Sheet s = new Sheet();
        s.number = sheets.size();
        s.parent = parent;
        s.name = "" + (char) ('a' + random.nextInt(4));
        s.of = random.nextInt(2) == 0 ? "" + (char) ('a' + random.nextInt(4)) : null;
        s.original = s.number;
        s.drawn = true;
        for (Sheet o : sheets) {
            if (o.drawn && o.name.equals(s.of)) {
                s.original = o.number;
                s.drawn = false;
                s.copy = o.copies.size();
                o.copies.add(s.number);
                break;
            }
        }
        if (s.drawn) {
            s.copies.add(s.number);
        }
        sheets.add(s);
        String dots = ".".repeat(depth);
        text.append(dots).append("sheet 0 \"").append(s.name).append("\"\n");
        boolean told = s.of == null;
        for (int n = random.nextInt(14); n > 0; n--) {
            if (!told && random.nextInt(3) == 0) {
                text.append(dots).append(".field \"of\" \"").append(s.of).append("\"\n");
                told = true;
            }
            addThing(s, dots + ".");
            if (depth < 4 && sheets.size() < 12 && random.nextInt(12) == 0) {
                addSheet(s.number, depth + 1);
            }
        }
        if (!told) {
            text.append(dots).append(".field \"of\" \"").append(s.of).append("\"\n");
        }
    }

    private static int small() {
        return random.nextInt(5);
    }

    private static void addThing(Sheet s, String dots) {
        int x = small();
        int y = small();
        int x2 = small();
        int y2 = random.nextBoolean() ? y : small();
        int[] names = {0, 1, 2, 30, 899, 900, 901, 999};
        int name = names[random.nextInt(names.length)];
        switch (random.nextInt(6)) {
            case 0, 1 -> {
                text.append(dots).append("wire ").append(x).append(' ').append(y).append(' ').append(x2).append(' ').append(y2).append('\n');
                if (s.drawn && (x != x2 || y != y2)) {
                    wires.add(new Thing(s.number, x, y, x2, y2, 0, false, 0));
                }
            }
            case 2 -> {
                text.append(dots).append("note ").append(x).append(' ').append(y).append(" \"+\" 1\n");
                if (s.drawn) {
                    junctions.add(new Thing(s.number, x, y, 0, 0, 0, false, 0));
                }
            }
            case 3 -> {
                boolean port = random.nextInt(2) == 0;
                text.append(dots).append("note ").append(x).append(' ').append(y).append(port ? " \"^" : " \"").append(name).append("\" 1\n");
                if (s.drawn) {
                    labels.add(new Thing(s.number, x, y, 0, 0, name, port, 0));
                }
            }
            default -> {
                text.append(dots).append("symbol 1 -1 \"\"\n").append(dots).append(".unit 1\n");
                symbols++;
                for (int n = random.nextInt(3); n >= 0; n--) {
                    int px = small();
                    int py = small();
                    text.append(dots).append("..pin ").append(px - 1).append(' ').append(py + 1).append(" \"\" 0\n");
                    boolean there = false;
                    for (Thing t : terminals) {
                        there = there || (t.symbol == symbols && t.x == px && t.y == py);
                    }
                    if (s.drawn && !there && terminals.size() < 60) {
                        terminals.add(new Thing(s.number, px, py, 0, 0, 0, false, symbols));
                    }
                }
            }
        }
    }

    private static boolean on(Thing w, int sheet, int x, int y) {
        if (w.sheet != sheet) {
            return false;
        }
        for (int d = 1; d <= 4 * 3; d++) {
            // every place of whole numbers on the wire
            for (int k = 0; k <= d; k++) {
                if (d * (x - w.x) == k * (w.x2 - w.x) && d * (y - w.y) == k * (w.y2 - w.y)) {
                    return true;
                }
            }
        }
        return false;
    }

    private static int compare(Bench b) {
        String context = text.toString();
        int ports = 0;
        Map<String, Set<String>> joined = new LinkedHashMap<>();
        List<String[]> pairs = new ArrayList<>();
        for (Sheet s : sheets) {
            int from = s.original;
            for (int i = 0; i < wires.size(); i++) {
                Thing w = wires.get(i);
                for (int k = i + 1; k < wires.size(); k++) {
                    Thing v = wires.get(k);
                    boolean common = (w.x == v.x && w.y == v.y) || (w.x == v.x2 && w.y == v.y2) || (w.x2 == v.x && w.y2 == v.y) || (w.x2 == v.x2 && w.y2 == v.y2);
                    for (Thing j : junctions) {
                        common = common || (j.sheet == from && on(w, from, j.x, j.y) && on(v, from, j.x, j.y));
                    }
                    if (w.sheet == from && v.sheet == from && common) {
                        pairs.add(new String[] {"w" + i + "/" + s.number, "w" + k + "/" + s.number});
                    }
                }
                for (int k = 0; k < labels.size(); k++) {
                    if (labels.get(k).sheet == from && on(w, from, labels.get(k).x, labels.get(k).y)) {
                        pairs.add(new String[] {"w" + i + "/" + s.number, "l" + k + "/" + s.number});
                    }
                }
                for (int k = 0; k < terminals.size(); k++) {
                    if (terminals.get(k).sheet == from && on(w, from, terminals.get(k).x, terminals.get(k).y)) {
                        pairs.add(new String[] {"w" + i + "/" + s.number, "t" + k + "/" + s.number});
                    }
                }
            }
            List<Object[]> places = new ArrayList<>();
            for (int k = 0; k < labels.size(); k++) {
                places.add(new Object[] {labels.get(k), "l" + k + "/" + s.number});
            }
            for (int k = 0; k < terminals.size(); k++) {
                places.add(new Object[] {terminals.get(k), "t" + k + "/" + s.number});
            }
            for (Object[] p : places) {
                for (Object[] q : places) {
                    Thing one = (Thing) p[0];
                    Thing two = (Thing) q[0];
                    if (one.sheet == from && two.sheet == from && one.x == two.x && one.y == two.y) {
                        pairs.add(new String[] {(String) p[1], (String) q[1]});
                    }
                }
            }
            for (int k = 0; k < labels.size(); k++) {
                if (labels.get(k).sheet == from) {
                    pairs.add(new String[] {"l" + k + "/" + s.number, name(labels.get(k).name, s.number)});
                }
            }
        }
        for (int k = 0; k < labels.size(); k++) {
            if (labels.get(k).port) {
                for (int copy : sheets.get(labels.get(k).sheet).copies) {
                    if (sheets.get(copy).parent >= 0 && ports < 30) {
                        ports++;
                        pairs.add(new String[] {"l" + k + "/" + copy, name(labels.get(k).name, sheets.get(copy).parent)});
                    }
                }
            }
        }
        for (String[] p : pairs) {
            joined.computeIfAbsent(p[0], x -> new HashSet<>()).add(p[1]);
            joined.computeIfAbsent(p[1], x -> new HashSet<>()).add(p[0]);
        }
        List<Integer> remarks = new ArrayList<>();
        Map<String, Integer> netOf = new HashMap<>();
        int nets = 0;
        for (int t = 0; t < terminals.size(); t++) {
            List<Integer> copies = sheets.get(terminals.get(t).sheet).copies;
            for (int copy = 0; copy < copies.size(); copy++) {
                String node = "t" + t + "/" + copies.get(copy);
                if (!netOf.containsKey(node)) {
                    TreeSet<Integer> names = new TreeSet<>();
                    Deque<String> next = new ArrayDeque<>(List.of(node));
                    netOf.put(node, nets);
                    while (!next.isEmpty()) {
                        String at = next.pop();
                        if (at.startsWith("l")) {
                            names.add(labels.get(Integer.parseInt(at.substring(1, at.indexOf('/')))).name);
                        }
                        for (String other : joined.getOrDefault(at, Set.of())) {
                            if (netOf.putIfAbsent(other, nets) == null) {
                                next.add(other);
                            }
                        }
                    }
                    Bench.due("nameOf in\n" + context, b.mill.nameOf(nets), names.isEmpty() ? -1 - t : names.pollFirst());
                    for (int name : names) {
                        remarks.add(1000 * nets + name);
                    }
                    nets++;
                }
                Bench.due("netOf(" + t + ", " + copy + ") in\n" + context, b.mill.netOf(t, copy), netOf.get(node));
            }
            Bench.due("netOf", b.mill.netOf(t, copies.size()), -1);
        }
        Bench.due("nets", b.mill.nets(), nets);
        Bench.due("netOf", b.mill.netOf(terminals.size(), 0), -1);
        for (int k = 0; k < labels.size(); k++) {
            Thing l = labels.get(k);
            boolean alone = true;
            for (Thing t : terminals) {
                alone = alone && !(t.sheet == l.sheet && t.x == l.x && t.y == l.y);
            }
            for (Thing w : wires) {
                alone = alone && !on(w, l.sheet, l.x, l.y);
            }
            if (alone) {
                remarks.add(100000000 + k);
            }
        }
        Bench.due("remarks of\n" + context, b.remarks().toString(), remarks.toString());
        return remarks.size();
    }

    private static String name(int name, int sheet) {
        return name >= 900 ? "n" + name : "n" + name + "/" + sheet;
    }
}
