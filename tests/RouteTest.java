import java.util.*;

/** Promises 13 to 19 by chance: boards are routed by a plain model, and by the mill. */
public final class RouteTest {
    private static final Random random = new Random(7);

    public static void main(String[] args) {
        for (int n = 0; n < 260; n++) {
            oneBoard(n);
        }
        Bench.finish("RouteTest");
    }

    private static void oneBoard(int n) {
        int nets = 1 + random.nextInt(14);
        Bench b = Sixty.drawn(nets);
        int size = n % 3 == 0 ? 16 : 6;
        Model m = new Model(1 + random.nextInt(size), 1 + random.nextInt(size), 1 + random.nextInt(4), random.nextLong(), nets);
        b.mill.board(m.x, m.y, m.layers, m.seed);
        for (int act = 0; act < 90; act++) {
            int l = random.nextInt(m.layers);
            int i = random.nextInt(m.x);
            int j = random.nextInt(m.y);
            int which = random.nextInt(20);
            if (which < 12) {
                int t = random.nextInt(60);
                Bench.due("put", b.mill.put(t, 0, l, i, j), m.put(t, l, i, j));
            } else if (which < 15) {
                Bench.due("bar", b.mill.bar(l, i, j), m.bar(l, i, j));
            } else if (which < 17) {
                int[] costs = {random.nextInt(6), random.nextInt(51), random.nextInt(9)};
                Bench.due("cost", b.mill.cost(l, costs[0], costs[1], costs[2]), true);
                m.costs[l] = costs;
            } else if (act > 20) {
                int rounds = 1 + random.nextInt(4);
                Bench.due("route", b.mill.route(rounds), m.route(rounds));
                compare(b, m);
            }
        }
        b.mill.route(20);
        m.route(20);
        compare(b, m);
    }

    private static void compare(Bench b, Model m) {
        b.mill.facts();
        b.feed("*i<12{!@i:0;!@i:1;!@i:2;i=i+1;}");
        b.mill.program();
        b.mill.run(60);
        StringBuilder got = new StringBuilder();
        StringBuilder due = new StringBuilder();
        for (int net = 0; net < 12; net++) {
            got.append('\n').append(net).append(": ").append(b.mill.costOf(net));
            for (int k = 0; b.mill.blocking(net, k) != -1; k++) {
                got.append(" by ").append(b.mill.blocking(net, k));
            }
            for (int k = 0; b.mill.way(net, k, 0) != -1; k++) {
                got.append(' ').append(b.mill.way(net, k, 0)).append(',').append(b.mill.way(net, k, 1)).append(',').append(b.mill.way(net, k, 2));
            }
            got.append(" ripped ").append(ripped(b, net));
            Model.Net n = net < m.nets.size() ? m.nets.get(net) : null;
            due.append('\n').append(net).append(": ").append(n == null || !n.led ? -1 : n.cost);
            for (int other = 0; other < 12 && n != null; other++) {
                if (n.blockers.contains(other)) {
                    due.append(" by ").append(other);
                }
            }
            if (n != null && n.led) {
                for (int[] c : n.tree) {
                    due.append(' ').append(c[0]).append(',').append(c[1]).append(',').append(c[2]);
                }
            }
            due.append(" ripped ").append(n == null ? -1 : n.ripped);
        }
        Bench.due("state", got.toString(), due.toString());
    }

    private static long ripped(Bench b, int net) {
        b.feed("!@" + net + ":4;");
        b.mill.program();
        b.mill.run(5);
        return b.mill.output(0);
    }

    /** The board as the document tells it, each thing looked for anew. */
    private static final class Model {
        final class Net {
            final int sheetNet;
            final List<int[]> pads = new ArrayList<>();
            boolean led;
            long cost;
            int ripped;
            Set<Integer> blockers = new TreeSet<>();
            List<int[]> tree = new ArrayList<>();

            Net(int sheetNet) {
                this.sheetNet = sheetNet;
            }

            boolean holds(int[] c) {
                return has(pads, c) || has(tree, c);
            }
        }

        final int x;
        final int y;
        final int layers;
        long seed;
        final int sheetNets;
        final List<Net> nets = new ArrayList<>();
        final Set<Integer> padded = new HashSet<>();
        final boolean[][][] barred;
        final int[][][] history;
        final int[][] costs = new int[4][3];

        Model(int x, int y, int layers, long seed, int sheetNets) {
            this.x = x;
            this.y = y;
            this.layers = layers;
            this.seed = seed;
            this.sheetNets = sheetNets;
            barred = new boolean[layers][x][y];
            history = new int[layers][x][y];
        }

        static boolean has(List<int[]> cells, int[] c) {
            for (int[] other : cells) {
                if (Arrays.equals(other, c)) {
                    return true;
                }
            }
            return false;
        }

        int number(int[] c) {
            return (c[0] * y + c[2]) * x + c[1];
        }

        Net holder(int[] c) {
            for (Net n : nets) {
                if (n.holds(c)) {
                    return n;
                }
            }
            return null;
        }

        boolean padThere(int[] c) {
            for (Net n : nets) {
                if (has(n.pads, c)) {
                    return true;
                }
            }
            return false;
        }

        int padCount = 0;

        int put(int t, int l, int i, int j) {
            if (padded.contains(t)) {
                return -1;
            }
            Net net = null;
            for (Net n : nets) {
                if (n.sheetNet == t % sheetNets) {
                    net = n;
                }
            }
            if (padCount == 40 || (net == null && nets.size() == 12)) {
                return -1;
            }
            if (net == null) {
                net = new Net(t % sheetNets);
                nets.add(net);
            }
            int[] c = {l, i, j};
            Net holder = holder(c);
            if (barred[l][i][j] || (holder != null && holder != net) || padThere(c) || net.pads.size() == 5) {
                return -1;
            }
            net.led = false;
            net.tree.clear();
            net.pads.add(c);
            padded.add(t);
            padCount++;
            return padCount - 1;
        }

        boolean bar(int l, int i, int j) {
            if (barred[l][i][j] || holder(new int[] {l, i, j}) != null) {
                return false;
            }
            barred[l][i][j] = true;
            return true;
        }

        List<Net> open() {
            List<Net> all = new ArrayList<>();
            for (Net n : nets) {
                if (!n.led && !n.pads.isEmpty()) {
                    all.add(n);
                }
            }
            return all;
        }

        int route(int rounds) {
            for (int r = 0; r < rounds; r++) {
                List<Net> order = open();
                for (int k = order.size() - 1; k >= 1; k--) {
                    seed = seed * 6364136223846793005L + 1442695040888963407L;
                    Collections.swap(order, k, (int) ((seed >>> 33) % (k + 1)));
                }
                for (Net n : order) {
                    if (!n.led) {
                        lead(n);
                    }
                }
            }
            return open().size();
        }

        List<int[]> neighbours(int[] c) {
            List<int[]> all = new ArrayList<>();
            for (int d = 0; d < 3; d++) {
                for (int by = -1; by <= 1; by += 2) {
                    int[] n = c.clone();
                    n[d] += by;
                    if (n[0] >= 0 && n[0] < layers && n[1] >= 0 && n[1] < x && n[2] >= 0 && n[2] < y) {
                        all.add(n);
                    }
                }
            }
            all.sort(Comparator.comparingInt(this::number));
            return all;
        }

        int step(int[] from, int[] to, Net net) {
            int cost = 2;
            if (from[0] != to[0]) {
                cost += costs[Math.min(from[0], to[0])][1];
            } else if (from[0] % 2 == 0 ? from[2] != to[2] : from[1] != to[1]) {
                cost += costs[from[0]][0];
            }
            for (int[] beside : neighbours(to)) {
                if (beside[0] == to[0] && holder(beside) != null && holder(beside) != net) {
                    cost += costs[to[0]][2];
                }
            }
            return cost + history[to[0]][to[1]][to[2]];
        }

        int stepOr(int[] from, int[] to, Net net, boolean ripping) {
            Net holder = holder(to);
            boolean other = holder != null && holder != net;
            if (barred[to[0]][to[1]][to[2]] || (other && (!ripping || padThere(to)))) {
                return -1;
            }
            return step(from, to, net) + (other ? 100 : 0);
        }

        Map<Integer, Integer> distances(Net net, boolean ripping) {
            Map<Integer, Integer> all = new TreeMap<>();
            TreeMap<Long, int[]> next = new TreeMap<>();
            for (int[] c : net.tree) {
                all.put(number(c), 0);
                next.put((long) number(c), c);
            }
            while (!next.isEmpty()) {
                int[] c = next.pollFirstEntry().getValue();
                int base = all.get(number(c));
                for (int[] n : neighbours(c)) {
                    int s = stepOr(c, n, net, ripping);
                    Integer known = all.get(number(n));
                    if (s >= 0 && (known == null || known > base + s)) {
                        if (known != null) {
                            next.remove(known * 5000L + number(n));
                        }
                        all.put(number(n), base + s);
                        next.put((base + s) * 5000L + number(n), n);
                    }
                }
            }
            return all;
        }

        int[] nearest(Net net, Map<Integer, Integer> distances) {
            int[] best = null;
            for (int[] p : net.pads) {
                Integer d = has(net.tree, p) ? null : distances.get(number(p));
                if (d != null && (best == null || d < distances.get(number(best)))) {
                    best = p;
                }
            }
            return best;
        }

        void lead(Net net) {
            net.tree.clear();
            net.tree.add(net.pads.get(0));
            net.cost = 0;
            net.blockers.clear();
            while (net.pads.stream().anyMatch(p -> !has(net.tree, p))) {
                Map<Integer, Integer> free = distances(net, false);
                Map<Integer, Integer> d = free;
                boolean ripping = false;
                int[] pad = nearest(net, d);
                if (pad == null) {
                    ripping = true;
                    d = distances(net, true);
                    pad = nearest(net, d);
                }
                if (pad == null) {
                    block(net, free);
                    return;
                }
                net.cost += d.get(number(pad));
                List<int[]> way = new ArrayList<>();
                int[] at = pad;
                while (!has(net.tree, at)) {
                    way.add(at);
                    for (int[] n : neighbours(at)) {
                        int s = stepOr(n, at, net, ripping);
                        if (d.containsKey(number(n)) && d.get(number(n)) + s == d.get(number(at))) {
                            at = n;
                            break;
                        }
                    }
                }
                Set<Net> ripped = new LinkedHashSet<>();
                for (int[] c : way) {
                    Net holder = holder(c);
                    if (holder != null && holder != net) {
                        ripped.add(holder);
                        history[c[0]][c[1]][c[2]]++;
                    }
                }
                for (Net other : ripped) {
                    other.led = false;
                    other.tree.clear();
                    other.ripped++;
                }
                net.tree.addAll(way);
            }
            net.led = true;
        }

        void block(Net net, Map<Integer, Integer> free) {
            for (int l = 0; l < layers; l++) {
                for (int i = 0; i < x; i++) {
                    for (int j = 0; j < y; j++) {
                        int[] c = {l, i, j};
                        if (free.containsKey(number(c))) {
                            for (int[] n : neighbours(c)) {
                                Net holder = holder(n);
                                if (holder != null && holder != net) {
                                    net.blockers.add(nets.indexOf(holder));
                                }
                            }
                        }
                    }
                }
            }
            net.tree.clear();
        }
    }
}
