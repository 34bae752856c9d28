import java.awt.geom.Line2D;
import java.util.*;

/** Promises 20 to 29: rules, cuts, copper, airlines, violations and drill texts; edges, and by chance against a plain model. */
public final class CutTest {
    private static final Random random = new Random(11);
    private static int withHoles = 0;
    private static int withMany = 0;
    private static int full = 0;
    private static int faulty = 0;

    public static void main(String[] args) {
        rules();
        withoutCut();
        cutRooms();
        latestRule();
        rings();
        holesOfOneStack();
        ends();
        airlines();
        airlinesOfOneLength();
        drillTexts();
        for (int n = 0; n < 1500; n++) {
            oneCut();
        }
        System.out.println(withHoles + " cuts with holes, " + withMany + " with more than eight, " + full + " full, " + faulty + " with violations");
        Bench.due("enough of each", withHoles > 50 && withMany > 10 && full > 10 && faulty > 100, true);
        Bench.finish("CutTest");
    }

    private static void rules() {
        Bench b = new Bench();
        int[][] wrong = {{-1, 0, 0, 0}, {5, 0, 0, 0}, {0, -2, 0, 0}, {0, 4, 0, 0}, {0, 0, -2, 0}, {0, 0, 4, 0}, {0, 0, 0, -1},
            {0, 0, 0, 100001}, {4, 0, 0, 1}, {4, 0, 0, -1}};
        for (int[] w : wrong) {
            Bench.due("rule" + Arrays.toString(w), b.mill.rule(w[0], w[1], w[2], w[3]), -1);
            b.told(2);
        }
        for (int n = 0; n < 30; n++) {
            int kind = n % 5;
            Bench.due("rule " + n, b.mill.rule(kind, n % 5 - 1, 3 - n % 5, kind == 4 ? 0 : 100000), n);
            b.told(0);
        }
        Bench.due("the 31st rule", b.mill.rule(0, 0, 0, 0), -1);
        b.told(1);
        Bench.due("no rule is ahead of full", b.mill.rule(9, 0, 0, 0), -1);
        b.told(2);
    }

    private static void withoutCut() {
        Bench b = new Bench();
        Bench.due("cut", b.mill.cut(), -1);
        b.told(3);
        b.sheets(0, "(design 3)");
        Bench.due("cut", b.mill.cut(), -1);
        b.told(3);
        b.mill.board(2, 2, 2, 0);
        Bench.due("violations", b.mill.violations(), -1);
        Bench.due("shorts", b.mill.shorts(), -1);
        Bench.due("exact", b.mill.exact(), false);
        Bench.due("drill", b.drill(0), "");
        Bench.due("reread", b.mill.reread(0), -1);
        Bench.due("cut", b.mill.cut(), 0);
        Bench.due("violations", b.mill.violations(), 0);
        Bench.due("violation", b.mill.violation(0, 0), -1);
        Bench.due("shorts", b.mill.shorts(), 0);
        Bench.due("exact", b.mill.exact(), true);
        Bench.due("copper", b.mill.copper(0), -1);
        Bench.due("airline", b.mill.airline(0, 0, 0), -1);
        Bench.due("drill", b.drill(0), "M48\nL0,1\nT0C300P\n%\nM30\n");
    }

    private static void cutRooms() {
        Bench b = Sixty.drawn(1);
        b.mill.board(16, 16, 1, 0);
        for (int t = 0; t < 5; t++) {
            b.mill.put(t, 0, 0, 3 * t, 3 * t);
        }
        Bench.due("cut of open pads", b.mill.cut(), 5);
        Bench.due("exact", b.mill.exact(), false);
        Bench.due("airlines", b.mill.airline(0, 3, 1), 4);
        b.mill.cost(0, 0, 0, 0);
        b.mill.route(1);
        Bench.due("the latest cut stays", b.mill.airline(0, 3, 1), 4);
        for (int n = 1; n < 10; n++) {
            Bench.due("cut " + n, b.mill.cut() > 5, true);
        }
        Bench.due("the 11th cut", b.mill.cut(), -1);
        b.told(1);
        Bench.due("exact", b.mill.exact(), true);
        Bench c = stairs();
        Bench.due("more than 60 shapes", c.mill.cut(), -1);
        c.told(1);
        Bench.due("it is none", c.mill.violations(), -1);
        c.mill.board(2, 2, 1, 0);
        for (int n = 0; n < 10; n++) {
            Bench.due("nor one of the ten", c.mill.cut(), 0);
        }
        Bench.due("the 11th", c.mill.cut(), -1);
    }

    /** A way of many steps, as bars leave but one. */
    private static Bench stairs() {
        Bench b = Sixty.drawn(1);
        b.mill.board(16, 16, 4, 0);
        for (int l = 0; l < 4; l++) {
            for (int i = 0; i < 16; i++) {
                for (int j = 0; j < 16; j++) {
                    boolean stair = l == 0 && (i == j || i == j + 1);
                    boolean back = l == 2 && (i == j || i == j + 1);
                    boolean up = i == 15 && j == 15 && l < 3;
                    if (!stair && !back && !up) {
                        b.mill.bar(l, i, j);
                    }
                }
            }
        }
        b.mill.put(0, 0, 0, 0, 0);
        b.mill.put(1, 0, 2, 0, 0);
        Bench.due("route", b.mill.route(1), 0);
        return b;
    }

    private static Bench row(int... columns) {
        Bench b = Sixty.drawn(12);
        b.mill.board(16, 3, 3, 0);
        for (int n = 0; n < columns.length; n++) {
            b.mill.put(n % 2 * 12 + n / 2, 0, 0, columns[n], 0);
        }
        b.mill.route(3);
        return b;
    }

    private static void violationsAre(Bench b, int... want) {
        StringBuilder got = new StringBuilder();
        for (int k = 0; k < b.mill.violations(); k++) {
            got.append(b.mill.violation(k, 0)).append(' ').append(b.mill.violation(k, 1)).append(' ').append(b.mill.violation(k, 2)).append(' ');
        }
        StringBuilder due = new StringBuilder();
        for (int w : want) {
            due.append(w).append(' ');
        }
        Bench.due("violations", got.toString(), due.toString());
        Bench.due("violation", b.mill.violation(want.length / 3, 0), -1);
        Bench.due("violation", b.mill.violation(-1, 0), -1);
        Bench.due("violation", b.mill.violation(0, 3), -1);
        Bench.due("violation", b.mill.violation(0, -1), -1);
    }

    private static void latestRule() {
        // pads 0 and 1 of net 0 at 0 and 1, pads 2 and 3 of net 1 at 2 and 3; tracks 4 and 5
        Bench b = row(0, 1, 2, 3);
        b.mill.rule(0, -1, -1, 400);
        Bench.due("cut", b.mill.cut(), 6);
        violationsAre(b);
        b.mill.rule(0, -1, -1, 401);
        b.mill.cut();
        violationsAre(b, 0, 1, 2);
        b.mill.rule(0, 1, 0, 601);
        b.mill.cut();
        // 1 and 5, and 2 and 4, either way round
        violationsAre(b, 0, 1, 2, 0, 1, 5, 0, 2, 4);
        b.mill.rule(0, 1, -1, 600);
        b.mill.cut();
        violationsAre(b, 0, 1, 2);
        b.mill.rule(0, -1, 1, 0);
        b.mill.cut();
        violationsAre(b);
        b.mill.rule(1, 0, 2, 201);
        b.mill.rule(1, 1, 0, 600);
        b.mill.cut();
        violationsAre(b, 1, 4, -1, 1, 5, -1);
        b.mill.rule(1, 2, 0, 10000);
        b.mill.rule(1, -1, 3, 200);
        Bench.due("exact", b.mill.exact(), false);
        b.mill.cut();
        violationsAre(b);
        Bench.due("exact", b.mill.exact(), true);
        b.mill.rule(0, 0, 0, 801);
        b.mill.cut();
        violationsAre(b, 0, 4, 5);
        // a cut keeps what the rules were then
        b.mill.rule(0, 0, 0, 800);
        violationsAre(b, 0, 4, 5);
        b.mill.cut();
        violationsAre(b);
    }

    /** Net 0 from layer 0 to layer 2 at one place, and beside it. */
    private static Bench stack() {
        Bench b = Sixty.drawn(12);
        b.mill.board(3, 1, 3, 0);
        b.mill.bar(1, 1, 0);
        b.mill.bar(2, 1, 0);
        b.mill.put(0, 0, 0, 1, 0);
        b.mill.put(12, 0, 2, 0, 0);
        b.mill.route(1);
        return b;
    }

    private static void rings() {
        Bench b = stack();
        // pads 0, 1; track 2; rings 3, 4 and hole 5, rings 6, 7 and hole 8 at 0, 0
        Bench.due("cut", b.mill.cut(), 9);
        b.mill.rule(3, -1, 0, 150);
        b.mill.cut();
        // pad 1 lies at the same place on layer 2
        violationsAre(b);
        b.mill.rule(3, 3, 0, 151);
        b.mill.cut();
        violationsAre(b, 3, 5, -1, 3, 8, -1);
        b.mill.rule(3, 0, 3, 100000);
        b.mill.cut();
        violationsAre(b, 3, 5, -1, 3, 8, -1);
        Bench c = Sixty.drawn(12);
        c.mill.board(4, 1, 2, 0);
        c.mill.bar(0, 2, 0);
        c.mill.put(0, 0, 0, 0, 0);
        c.mill.put(12, 0, 1, 3, 0);
        c.mill.cost(1, 50, 0, 0);
        c.mill.route(1);
        // the hole is at 1, 0, a thousand from the pads: its rings alone are near
        c.mill.rule(3, 3, -1, 100);
        Bench.due("cut", c.mill.cut(), 7);
        violationsAre(c);
        c.mill.rule(3, 3, -1, 101);
        c.mill.cut();
        violationsAre(c, 3, 6, -1);
    }

    private static void holesOfOneStack() {
        Bench b = stack();
        b.mill.rule(2, -1, -1, 0);
        Bench.due("cut", b.mill.cut(), 9);
        violationsAre(b, 2, 5, 8);
        b.mill.rule(2, 0, -1, 0);
        b.mill.cut();
        violationsAre(b, 2, 5, 8);
        b.mill.rule(2, 3, 3, 100000);
        b.mill.cut();
        violationsAre(b, 2, 5, 8);
        Bench.due("drill 0", b.drill(0), "M48\nL0,1\nT0C300P\n%\nT0\nX0Y0\nM30\n");
        Bench.due("drill 1", b.drill(1), "M48\nL1,2\nT0C300P\n%\nT0\nX0Y0\nM30\n");
        Bench.due("drill 2", b.drill(2), "M48\nL2,3\nT0C300P\n%\nM30\n");
        Bench.due("drill 6", b.drill(6), "M48\nL6,7\nT0C300P\n%\nM30\n");
        Bench.due("drill 7", b.drill(7), "");
        Bench.due("drill -1", b.drill(-1), "");
        Bench.due("drill(0, -1)", b.mill.drill(0, -1), -1);
        for (int l = 0; l < 7; l++) {
            Bench.due("reread", b.mill.reread(l), 1);
        }
        Bench.due("reread(7)", b.mill.reread(7), -1);
        Bench.due("reread(-1)", b.mill.reread(-1), -1);
    }

    private static void ends() {
        // a way with a corner: each track's end lies in the other one, or in a pad
        Bench b = Sixty.drawn(12);
        b.mill.board(3, 3, 1, 0);
        b.mill.put(0, 0, 0, 0, 0);
        b.mill.put(12, 0, 0, 2, 2);
        b.mill.route(1);
        b.mill.rule(4, -1, -1, 0);
        Bench.due("cut", b.mill.cut(), 4);
        violationsAre(b);
        Bench.due("exact", b.mill.exact(), true);
    }

    private static void airlines() {
        Bench b = Sixty.drawn(2);
        b.mill.board(16, 16, 2, 0);
        int[][] places = {{0, 0, 0}, {0, 5, 0}, {1, 5, 0}, {0, 9, 3}, {0, 2, 0}};
        for (int n = 0; n < 5; n++) {
            Bench.due("put", b.mill.put(2 * n, 0, places[n][0], places[n][1], places[n][2]), n);
        }
        Bench.due("put", b.mill.put(1, 0, 1, 0, 0), 5);
        Bench.due("put", b.mill.put(3, 0, 1, 1, 0), 6);
        Bench.due("cut", b.mill.cut(), 7);
        int[][] want = {{1, 2}, {0, 4}, {1, 4}, {1, 3}};
        for (int k = 0; k < 4; k++) {
            Bench.due("airline", b.mill.airline(0, k, 0), want[k][0]);
            Bench.due("airline", b.mill.airline(0, k, 1), want[k][1]);
        }
        Bench.due("airline", b.mill.airline(0, 4, 0), -1);
        Bench.due("airline", b.mill.airline(0, 0, 2), -1);
        Bench.due("airline", b.mill.airline(0, 0, -1), -1);
        Bench.due("airline", b.mill.airline(0, -1, 0), -1);
        Bench.due("airline", b.mill.airline(-1, 0, 0), -1);
        Bench.due("airline", b.mill.airline(2, 0, 0), -1);
        Bench.due("airline", b.mill.airline(1, 0, 1), 6);
        for (int p = 0; p < 7; p++) {
            Bench.due("copper", b.mill.copper(p), p);
        }
        Bench.due("copper", b.mill.copper(7), -1);
        Bench.due("copper", b.mill.copper(-1), -1);
        Bench.due("shorts", b.mill.shorts(), 0);
    }

    /** Of pairs of one distance the one of the lower pads: 5 and 0 are as far as 3 and 4. */
    private static void airlinesOfOneLength() {
        Bench b = Sixty.drawn(1);
        b.mill.board(16, 16, 1, 0);
        b.mill.put(0, 0, 0, 0, 0);
        b.mill.put(1, 0, 0, 5, 0);
        b.mill.put(2, 0, 0, 3, 4);
        b.mill.cut();
        int[] want = {1, 2, 0, 1};
        for (int n = 0; n < 4; n++) {
            Bench.due("airline", b.mill.airline(0, n / 2, n % 2), want[n]);
        }
        Bench.due("airline", b.mill.airline(0, 2, 0), -1);
    }

    private static void drillTexts() {
        Bench b = row(0, 5);
        b.mill.cut();
        b.mill.board(16, 16, 2, 0);
        Bench.due("a cut of the board before", b.drill(0), "M48\nL0,1\nT0C300P\n%\nM30\n");
        b.mill.put(0, 0, 0, 15, 15);
        b.mill.put(12, 0, 1, 15, 15);
        b.mill.put(1, 0, 0, 0, 7);
        b.mill.put(13, 0, 1, 0, 7);
        b.mill.put(2, 0, 0, 3, 0);
        b.mill.put(14, 0, 1, 3, 0);
        b.mill.route(1);
        b.mill.cut();
        Bench.due("by the least travel", b.drill(0), "M48\nL0,1\nT0C300P\n%\nT0\nX3000Y0\nX0Y7000\nX15000Y15000\nM30\n");
        Bench.due("reread", b.mill.reread(0), 1);
    }

    // ---- by chance ----

    private record Shape(int kind, int net, int layer, int shapeClass, int x1, int y1, int x2, int y2, int radius) {
    }

    private record Piece(int net, int low, int high, Shape shape) {
    }

    private static void oneCut() {
        int nets = 1 + random.nextInt(12);
        Bench b = Sixty.drawn(nets);
        int x = 1 + random.nextInt(8);
        int y = 1 + random.nextInt(8);
        int layers = 1 + random.nextInt(4);
        b.mill.board(x, y, layers, random.nextLong());
        for (int l = 0; l < layers; l++) {
            b.mill.cost(l, random.nextInt(30), random.nextInt(3), random.nextInt(3));
        }
        List<int[]> pads = new ArrayList<>();
        Map<Integer, Integer> routeNets = new HashMap<>();
        int tries = 2 + random.nextInt(14);
        for (int n = 0; n < tries; n++) {
            int t = random.nextInt(60);
            int[] pad = {random.nextInt(layers), random.nextInt(x), random.nextInt(y), t % nets};
            int got = b.mill.put(t, 0, pad[0], pad[1], pad[2]);
            boolean counts = got >= 0 || (b.mill.told() == 4 && !routeNets.containsKey(t % nets));
            if (counts && !routeNets.containsKey(t % nets) && routeNets.size() < 12) {
                routeNets.put(t % nets, routeNets.size());
            }
            if (got >= 0) {
                pads.add(pad);
            }
        }
        for (int n = 0; n < random.nextInt(6); n++) {
            b.mill.bar(random.nextInt(layers), random.nextInt(x), random.nextInt(y));
        }
        int open = b.mill.route(1 + random.nextInt(6));
        List<int[]> rules = new ArrayList<>();
        int[] values = {0, 100, 101, 150, 151, 200, 201, 350, 351, 400, 401, 500, 501, 550, 600, 601, 700, 701, 800, 801, 1000, 1200, 3000};
        for (int n = random.nextInt(9); n > 0; n--) {
            int kind = random.nextInt(5);
            int[] rule = {kind, random.nextInt(5) - 1, random.nextInt(5) - 1, kind == 4 ? 0 : values[random.nextInt(values.length)]};
            rules.add(rule);
            b.mill.rule(rule[0], rule[1], rule[2], rule[3]);
        }
        compare(b, new int[] {x, y, layers, open}, pads, routeNets, rules);
    }

    private static void compare(Bench b, int[] size, List<int[]> pads, Map<Integer, Integer> routeNets, List<int[]> rules) {
        List<Shape> shapes = new ArrayList<>();
        List<Piece> pieces = new ArrayList<>();
        for (int[] p : pads) {
            int net = routeNets.get(p[3]);
            Shape s = new Shape(1, net, p[0], 1, 1000 * p[1], 1000 * p[2], 1000 * p[1], 1000 * p[2], 300);
            shapes.add(s);
            pieces.add(new Piece(net, p[0], p[0], s));
        }
        for (int net = 0; net < 12; net++) {
            addNet(b, net, size, shapes, pieces);
        }
        int got = b.mill.cut();
        Bench.due("cut", got, shapes.size() > 60 ? -1 : shapes.size());
        if (got < 0) {
            full++;
            return;
        }
        int[] copper = copper(pieces);
        for (int p = 0; p < copper.length; p++) {
            Bench.due("copper", b.mill.copper(p), copper[p]);
        }
        Bench.due("copper", b.mill.copper(copper.length), -1);
        int lines = compareAirlines(b, pads, routeNets, copper);
        List<int[]> violations = violations(shapes, rules);
        faulty += violations.isEmpty() ? 0 : 1;
        Bench.due("violations", b.mill.violations(), violations.size());
        for (int k = 0; k < violations.size(); k++) {
            for (int what = 0; what < 3; what++) {
                Bench.due("violation", b.mill.violation(k, what), violations.get(k)[what]);
            }
        }
        Bench.due("shorts", b.mill.shorts(), 0);
        Bench.due("exact", b.mill.exact(), size[3] == 0 && lines == 0 && violations.isEmpty());
        compareDrill(b, shapes);
    }

    private static void addNet(Bench b, int net, int[] size, List<Shape> shapes, List<Piece> pieces) {
        Set<List<Integer>> held = new HashSet<>();
        for (int k = 0; b.mill.way(net, k, 0) != -1; k++) {
            held.add(List.of(b.mill.way(net, k, 0), b.mill.way(net, k, 1), b.mill.way(net, k, 2)));
        }
        for (int pass = 0; pass < 2; pass++) {
            int dx = pass == 0 ? 1 : 0;
            int dy = 1 - dx;
            for (int l = 0; l < size[2]; l++) {
                for (int outer = 0; outer < (pass == 0 ? size[1] : size[0]); outer++) {
                    for (int inner = 0; inner < (pass == 0 ? size[0] : size[1]); inner++) {
                        int i = pass == 0 ? inner : outer;
                        int j = pass == 0 ? outer : inner;
                        if (held.contains(List.of(l, i, j)) && !held.contains(List.of(l, i - dx, j - dy))) {
                            int length = 1;
                            while (held.contains(List.of(l, i + length * dx, j + length * dy))) {
                                length++;
                            }
                            if (length > 1) {
                                Shape s = new Shape(0, net, l, 0, 1000 * i, 1000 * j,
                                    1000 * (i + (length - 1) * dx), 1000 * (j + (length - 1) * dy), 100);
                                shapes.add(s);
                                pieces.add(new Piece(net, l, l, s));
                            }
                        }
                    }
                }
            }
        }
        for (int l = 0; l < size[2]; l++) {
            for (int j = 0; j < size[1]; j++) {
                for (int i = 0; i < size[0]; i++) {
                    if (held.contains(List.of(l, i, j)) && held.contains(List.of(l + 1, i, j))) {
                        int px = 1000 * i;
                        int py = 1000 * j;
                        shapes.add(new Shape(1, net, l, 2, px, py, px, py, 250));
                        shapes.add(new Shape(1, net, l + 1, 2, px, py, px, py, 250));
                        Shape hole = new Shape(2, net, l, 3, px, py, px, py, 150);
                        shapes.add(hole);
                        pieces.add(new Piece(net, l, l + 1, hole));
                    }
                }
            }
        }
    }

    private static double distance(Shape a, Shape b) {
        // what it tells of lines of no length is not so
        boolean lines = a.kind == 0 && b.kind == 0;
        if (lines && Line2D.linesIntersect(a.x1, a.y1, a.x2, a.y2, b.x1, b.y1, b.x2, b.y2)) {
            return 0;
        }
        double one = Math.min(Line2D.ptSegDist(a.x1, a.y1, a.x2, a.y2, b.x1, b.y1), Line2D.ptSegDist(a.x1, a.y1, a.x2, a.y2, b.x2, b.y2));
        double two = Math.min(Line2D.ptSegDist(b.x1, b.y1, b.x2, b.y2, a.x1, a.y1), Line2D.ptSegDist(b.x1, b.y1, b.x2, b.y2, a.x2, a.y2));
        return Math.min(one, two);
    }

    private static int[] copper(List<Piece> pieces) {
        int[] net = new int[pieces.size()];
        Arrays.fill(net, -1);
        int count = 0;
        for (int p = 0; p < net.length; p++) {
            if (net[p] < 0) {
                Deque<Integer> next = new ArrayDeque<>(List.of(p));
                net[p] = count;
                while (!next.isEmpty()) {
                    Piece a = pieces.get(next.pop());
                    for (int q = 0; q < net.length; q++) {
                        Piece c = pieces.get(q);
                        boolean layers = Math.max(a.low, c.low) <= Math.min(a.high, c.high);
                        // on this grid a rectangle's corners touch nothing that its rounded ends do not
                        if (net[q] < 0 && layers && distance(a.shape, c.shape) <= a.shape.radius + c.shape.radius) {
                            net[q] = count;
                            next.add(q);
                        }
                    }
                }
                count++;
            }
        }
        return net;
    }

    private static int compareAirlines(Bench b, List<int[]> pads, Map<Integer, Integer> routeNets, int[] copper) {
        int all = 0;
        for (int net = 0; net < 12; net++) {
            List<int[]> pairs = new ArrayList<>();
            for (int p = 0; p < pads.size(); p++) {
                for (int q = p + 1; q < pads.size(); q++) {
                    if (routeNets.get(pads.get(p)[3]) == net && routeNets.get(pads.get(q)[3]) == net && copper[p] != copper[q]) {
                        int dx = pads.get(p)[1] - pads.get(q)[1];
                        int dy = pads.get(p)[2] - pads.get(q)[2];
                        pairs.add(new int[] {dx * dx + dy * dy, p, q});
                    }
                }
            }
            pairs.sort((s, t) -> s[0] != t[0] ? s[0] - t[0] : s[1] != t[1] ? s[1] - t[1] : s[2] - t[2]);
            int[] group = copper.clone();
            int k = 0;
            for (int[] pair : pairs) {
                if (group[pair[1]] != group[pair[2]]) {
                    Bench.due("airline", b.mill.airline(net, k, 0), pair[1]);
                    Bench.due("airline", b.mill.airline(net, k, 1), pair[2]);
                    k++;
                    int gone = group[pair[2]];
                    for (int p = 0; p < group.length; p++) {
                        group[p] = group[p] == gone ? group[pair[1]] : group[p];
                    }
                }
            }
            Bench.due("airline", b.mill.airline(net, k, 0), -1);
            all += k;
        }
        return all;
    }

    private static int rule(List<int[]> rules, int kind, int a, int b) {
        int value = -1;
        for (int[] r : rules) {
            boolean one = (r[1] == -1 || r[1] == a) && (b == -1 || r[2] == -1 || r[2] == b);
            boolean other = b != -1 && (r[1] == -1 || r[1] == b) && (r[2] == -1 || r[2] == a);
            value = r[0] == kind && (one || other) ? r[3] : value;
        }
        return value;
    }

    private static List<int[]> violations(List<Shape> shapes, List<int[]> rules) {
        List<int[]> all = new ArrayList<>();
        for (int a = 0; a < shapes.size(); a++) {
            Shape s = shapes.get(a);
            if (s.kind < 2 && 2 * s.radius < rule(rules, 1, s.shapeClass, -1)) {
                all.add(new int[] {1, a, -1});
            }
            int ring = rule(rules, 3, s.shapeClass, -1);
            if (s.kind == 2 && ring >= 0 && shapes.stream().noneMatch(o -> o.kind == 1 && o.net == s.net
                && distance(o, s) <= o.radius - s.radius - ring)) {
                all.add(new int[] {3, a, -1});
            }
            if (s.kind == 0 && rule(rules, 4, 0, -1) >= 0) {
                boolean first = false;
                boolean last = false;
                for (Shape o : shapes) {
                    if (o != s && o.kind < 2 && o.net == s.net && o.layer == s.layer) {
                        first = first || Line2D.ptSegDist(o.x1, o.y1, o.x2, o.y2, s.x1, s.y1) <= o.radius;
                        last = last || Line2D.ptSegDist(o.x1, o.y1, o.x2, o.y2, s.x2, s.y2) <= o.radius;
                    }
                }
                if (!first || !last) {
                    all.add(new int[] {4, a, -1});
                }
            }
            for (int b = a + 1; b < shapes.size(); b++) {
                Shape o = shapes.get(b);
                double apart = distance(s, o) - s.radius - o.radius;
                int clear = rule(rules, 0, s.shapeClass, o.shapeClass);
                if (s.kind < 2 && o.kind < 2 && s.layer == o.layer && s.net != o.net && clear >= 0 && apart < clear) {
                    all.add(new int[] {0, a, b});
                }
                int holes = rule(rules, 2, s.shapeClass, o.shapeClass);
                if (s.kind == 2 && o.kind == 2 && holes >= 0 && apart < holes) {
                    all.add(new int[] {2, a, b});
                }
            }
        }
        Comparator<int[]> order = Comparator.comparingInt((int[] v) -> shapes.get(v[1]).layer)
            .thenComparingInt(v -> shapes.get(v[1]).x1).thenComparingInt(v -> shapes.get(v[1]).y1)
            .thenComparingInt(v -> v[0]).thenComparingInt(v -> v[1]).thenComparingInt(v -> v[2]);
        all.sort(order);
        return all;
    }

    private static int way(int[] a, int[] b) {
        return Math.max(Math.abs(a[0] - b[0]), Math.abs(a[1] - b[1]));
    }

    private static int leastTravel;
    private static List<Integer> leastRow;

    private static void tryRows(List<int[]> holes, List<Integer> row, int[] at, int travel) {
        if (travel >= leastTravel) {
            return;
        }
        if (row.size() == holes.size()) {
            leastTravel = travel;
            leastRow = new ArrayList<>(row);
            return;
        }
        for (int h = 0; h < holes.size(); h++) {
            if (!row.contains(h)) {
                row.add(h);
                tryRows(holes, row, holes.get(h), travel + way(at, holes.get(h)));
                row.remove(row.size() - 1);
            }
        }
    }

    private static void compareDrill(Bench b, List<Shape> shapes) {
        List<int[]> holes = new ArrayList<>();
        for (Shape s : shapes) {
            if (s.kind == 2) {
                holes.add(new int[] {s.x1, s.y1, s.layer});
            }
        }
        withHoles += holes.isEmpty() ? 0 : 1;
        List<Integer> row = new ArrayList<>();
        if (holes.size() <= 8) {
            leastTravel = Integer.MAX_VALUE;
            tryRows(holes, new ArrayList<>(), new int[] {0, 0}, 0);
            row = leastRow;
        } else {
            withMany++;
            int[] at = {0, 0};
            while (row.size() < holes.size()) {
                int best = -1;
                for (int h = 0; h < holes.size(); h++) {
                    if (!row.contains(h) && (best < 0 || way(at, holes.get(h)) < way(at, holes.get(best)))) {
                        best = h;
                    }
                }
                row.add(best);
                at = holes.get(best);
            }
        }
        for (int l = 0; l < 7; l++) {
            StringBuilder text = new StringBuilder("M48\nL" + l + "," + (l + 1) + "\nT0C300P\n%\n");
            boolean first = true;
            for (int h : row) {
                if (holes.get(h)[2] == l) {
                    text.append(first ? "T0\n" : "").append("X").append(holes.get(h)[0]).append("Y").append(holes.get(h)[1]).append("\n");
                    first = false;
                }
            }
            Bench.due("drill " + l, b.drill(l), text + "M30\n");
            Bench.due("reread " + l, b.mill.reread(l), 1);
        }
    }
}
