import java.util.*;

/** Promises 36 to 42: the store, its edges, and by chance against a plain model. */
public final class StoreTest {
    private static final Random random = new Random(5);
    private static int crashes = 0;
    private static int fulls = 0;
    private static int loads = 0;

    public static void main(String[] args) {
        withoutBoard();
        savedBytes();
        oldBlocks();
        droppedAndSwept();
        begunRow();
        rowRoom();
        logRoom();
        editionRoom();
        blockRoom();
        crashRoom();
        copies();
        logRoomOfNewBlocks();
        loaded();
        loadedWithRefusals();
        for (int n = 0; n < 150; n++) {
            oneStore();
        }
        System.out.println(crashes + " crashes, " + fulls + " full, " + loads + " pads loaded");
        Bench.due("enough of each", crashes > 300 && fulls > 100 && loads > 300, true);
        Bench.finish("StoreTest");
    }

    private static Bench board(int nets) {
        Bench b = Sixty.drawn(nets);
        b.mill.board(16, 16, 4, 0);
        return b;
    }

    private static void put(Bench b, int t, int layer, int i, int j) {
        Bench.due("put", b.mill.put(t, 0, layer, i, j) >= 0, true);
    }

    private static void savedIs(Bench b, int edition, int... want) {
        StringBuilder got = new StringBuilder();
        for (int i = 0; b.mill.saved(edition, i) != -1; i++) {
            got.append(b.mill.saved(edition, i)).append(' ');
        }
        StringBuilder due = new StringBuilder();
        for (int w : want) {
            due.append(w).append(' ');
        }
        Bench.due("saved(" + edition + ")", got.toString(), due.toString());
    }

    private static void answers(Bench b, String call, long got, long want, int told) {
        Bench.due(call, got, want);
        b.told(told);
    }

    private static long one(boolean b) {
        return b ? 1 : 0;
    }

    private static void withoutBoard() {
        Bench b = new Bench();
        answers(b, "save", b.mill.save(), -1, 3);
        answers(b, "load", b.mill.load(0), -1, 3);
        answers(b, "drop", one(b.mill.drop(0)), 0, 2);
        answers(b, "sweep", b.mill.sweep(), 0, 0);
        answers(b, "reopen", b.mill.reopen(), -1, 3);
        answers(b, "crash(-1)", one(b.mill.crash(-1)), 0, 2);
        answers(b, "crash(2)", one(b.mill.crash(2)), 0, 2);
        answers(b, "crash(1)", one(b.mill.crash(1)), 1, 0);
        answers(b, "crash", one(b.mill.crash(-1)), 0, 3);
        answers(b, "drop", one(b.mill.drop(0)), 0, 3);
        answers(b, "sweep", b.mill.sweep(), -1, 3);
        answers(b, "reopen", b.mill.reopen(), 0, 0);
        answers(b, "crash(2)", one(b.mill.crash(2)), 0, 2);
    }

    private static void savedBytes() {
        Bench b = board(12);
        put(b, 13, 3, 15, 14);
        put(b, 0, 0, 1, 2);
        put(b, 1, 1, 3, 4);
        answers(b, "save", b.mill.save(), 0, 0);
        savedIs(b, 0, 13, 0, 3, 239, 1, 0, 1, 67, 0, 0, 0, 33);
        Bench.due("saved(0, -1)", b.mill.saved(0, -1), -1);
        Bench.due("saved(1, 0)", b.mill.saved(1, 0), -1);
        Bench.due("saved(-1, 0)", b.mill.saved(-1, 0), -1);
        b.mill.crash(0);
        Bench.due("saved of a crashed one", b.mill.saved(0, 0), -1);
        answers(b, "save", b.mill.save(), -1, 3);
        answers(b, "load", b.mill.load(0), -1, 3);
    }

    private static void oldBlocks() {
        Bench b = board(12);
        put(b, 0, 0, 0, 0);
        put(b, 1, 0, 1, 0);
        b.mill.save();
        put(b, 12, 0, 2, 0);
        answers(b, "save", b.mill.save(), 1, 0);
        savedIs(b, 0, 0, 0, 0, 0, 1, 0, 0, 1);
        savedIs(b, 1, 0, 0, 0, 0, 12, 0, 0, 2, 1, 0, 0, 1);
        // the log: 6, 6, 1; 10, 2 (block 1 again), 1
        answers(b, "crash(27)", one(b.mill.crash(27)), 0, 2);
        answers(b, "crash(26)", one(b.mill.crash(26)), 1, 0);
        answers(b, "reopen", b.mill.reopen(), 2, 0);
        savedIs(b, 1, 0, 0, 0, 0, 12, 0, 0, 2, 1, 0, 0, 1);
        answers(b, "crash(25)", one(b.mill.crash(25)), 1, 0);
        answers(b, "reopen", b.mill.reopen(), 1, 0);
        savedIs(b, 1);
        // the row that was begun is the beginning of the next one
        answers(b, "save", b.mill.save(), 1, 0);
        savedIs(b, 1, 0, 0, 0, 0, 12, 0, 0, 2, 1, 0, 0, 1, 0, 0, 0, 0, 12, 0, 0, 2, 1, 0, 0, 1);
    }

    private static void droppedAndSwept() {
        Bench b = board(12);
        put(b, 0, 0, 0, 0);
        b.mill.save();
        answers(b, "sweep", b.mill.sweep(), 0, 0);
        put(b, 1, 0, 1, 0);
        b.mill.save();
        answers(b, "drop(0)", one(b.mill.drop(0)), 1, 0);
        answers(b, "drop(0)", one(b.mill.drop(0)), 0, 4);
        answers(b, "drop(2)", one(b.mill.drop(2)), 0, 2);
        answers(b, "drop(-1)", one(b.mill.drop(-1)), 0, 2);
        savedIs(b, 0);
        answers(b, "load of a dropped one", b.mill.load(0), 0, 0);
        answers(b, "sweep", b.mill.sweep(), 0, 0);
        answers(b, "drop(1)", one(b.mill.drop(1)), 1, 0);
        // a block is there until it is swept: it comes again
        b.mill.save();
        answers(b, "sweep", b.mill.sweep(), 0, 0);
        b.mill.drop(2);
        answers(b, "sweep", b.mill.sweep(), 2, 0);
        answers(b, "sweep", b.mill.sweep(), 0, 0);
        answers(b, "save", b.mill.save(), 3, 0);
        savedIs(b, 3, 0, 0, 0, 0, 1, 0, 0, 1);
        // 6 1 1 | 2 6 1 | 2 1 2 | 2 2 1 | 1 2 1 1 | 6 6 1
        answers(b, "crash(46)", one(b.mill.crash(46)), 0, 2);
        answers(b, "crash(45)", one(b.mill.crash(45)), 1, 0);
        answers(b, "reopen", b.mill.reopen(), 4, 0);
        savedIs(b, 3, 0, 0, 0, 0, 1, 0, 0, 1);
        savedIs(b, 2);
        answers(b, "drop(3)", one(b.mill.drop(3)), 1, 0);
        answers(b, "sweep", b.mill.sweep(), 2, 0);
    }

    private static void begunRow() {
        Bench b = board(12);
        put(b, 0, 0, 0, 0);
        put(b, 1, 0, 1, 0);
        b.mill.save();
        b.mill.crash(12);
        answers(b, "reopen", b.mill.reopen(), 0, 0);
        answers(b, "sweep leaves what was begun", b.mill.sweep(), 0, 0);
        b.mill.board(1, 1, 1, 0);
        answers(b, "an empty board closes it", b.mill.save(), 0, 0);
        savedIs(b, 0, 0, 0, 0, 0, 1, 0, 0, 1);
        answers(b, "save", b.mill.save(), 1, 0);
        savedIs(b, 1);
        answers(b, "load of an empty one", b.mill.load(1), 0, 0);
        answers(b, "crash(11)", one(b.mill.crash(11)), 1, 0);
        answers(b, "reopen", b.mill.reopen(), 0, 0);
        answers(b, "what was left is cut off", one(b.mill.crash(7)), 0, 2);
        answers(b, "crash(6)", one(b.mill.crash(6)), 1, 0);
        answers(b, "reopen", b.mill.reopen(), 0, 0);
        b.mill.save();
        savedIs(b, 0, 0, 0, 0, 0);
    }

    private static void rowRoom() {
        Bench b = board(12);
        for (int t = 0; t < 8; t++) {
            put(b, t, 0, t, 0);
        }
        answers(b, "eight blocks", b.mill.save(), 0, 0);
        put(b, 8, 0, 8, 0);
        answers(b, "nine blocks", b.mill.save(), -1, 1);
        answers(b, "nothing was added", one(b.mill.crash(50)), 0, 2);
        answers(b, "crash(48)", one(b.mill.crash(48)), 1, 0);
        b.mill.reopen();
        answers(b, "eight were begun", b.mill.save(), -1, 1);
        b.mill.board(1, 1, 1, 0);
        b.mill.put(0, 0, 0, 0, 0);
        answers(b, "eight were begun, and one", b.mill.save(), -1, 1);
        b.mill.board(1, 1, 1, 0);
        answers(b, "eight were begun, and none", b.mill.save(), 0, 0);
        answers(b, "load", b.mill.load(0), 1, 0);
    }

    private static void logRoom() {
        Bench b = board(12);
        int[] columns = new int[16];
        // five pads each: 22 bytes for a block; eight nets: 177 bytes
        for (int t = 0; t < 40; t++) {
            int net = t % 8;
            put(b, t / 8 * 12 + net, 0, columns[net], net);
            columns[net]++;
        }
        answers(b, "save", b.mill.save(), 0, 0);
        answers(b, "save", b.mill.save(), 1, 0);
        answers(b, "save", b.mill.save(), 2, 0);
        // 177 + 17 + 17 = 211
        b.mill.board(16, 16, 4, 0);
        columns = new int[16];
        for (int t = 0; t < 40; t++) {
            int net = t % 8;
            put(b, t / 8 * 12 + net, 1, columns[net], net);
            columns[net]++;
        }
        answers(b, "save", b.mill.save(), 3, 0);
        // 388
        answers(b, "the log has no room", b.mill.save(), -1, 1);
        answers(b, "drop", one(b.mill.drop(0)), 1, 0);
        answers(b, "drop", one(b.mill.drop(1)), 1, 0);
        for (int n = 0; n < 7; n++) {
            answers(b, "sweep", b.mill.sweep(), 0, 0);
        }
        // 399
        answers(b, "drop without room", one(b.mill.drop(2)), 0, 1);
        answers(b, "drop of one that was", one(b.mill.drop(0)), 0, 4);
        answers(b, "sweep", b.mill.sweep(), 0, 0);
        answers(b, "sweep without room", b.mill.sweep(), -1, 1);
        b.mill.board(1, 1, 1, 0);
        answers(b, "save without room", b.mill.save(), -1, 1);
        answers(b, "crash(401)", one(b.mill.crash(401)), 0, 2);
        answers(b, "crash(400)", one(b.mill.crash(400)), 1, 0);
        answers(b, "reopen", b.mill.reopen(), 4, 0);
        answers(b, "crash(399)", one(b.mill.crash(399)), 1, 0);
        b.mill.reopen();
        answers(b, "save of one byte", b.mill.save(), 4, 0);
    }

    private static void copies() {
        Bench b = new Bench();
        b.sheets(1, "design 3\n.sheet 0 \"a\"\n..symbol 0 0 \"\"\n...unit 1\n....pin 0 0 \"\" 0\n....pin 1 0 \"\" 0\n"
            + ".sheet 0 \"b\"\n..field \"of\" \"a\"\n.sheet 0 \"c\"\n..field \"of\" \"a\"\n");
        b.mill.board(3, 3, 2, 0);
        b.mill.put(1, 2, 1, 2, 1);
        b.mill.put(0, 1, 0, 1, 2);
        b.mill.save();
        savedIs(b, 0, 1, 2, 1, 18, 0, 1, 0, 33);
        b.mill.board(3, 3, 2, 0);
        answers(b, "load", b.mill.load(0), 2, 0);
        answers(b, "the copy has a pad", b.mill.put(1, 2, 0, 0, 0), -1, 4);
        answers(b, "another one has none", b.mill.put(1, 1, 1, 2, 1), -1, 4);
        answers(b, "another one has none", b.mill.put(1, 1, 0, 0, 0), 2, 0);
    }

    /** New blocks of 22 bytes and the end of an edition: the log has 400 bytes, and no more. */
    private static void logRoomOfNewBlocks() {
        Bench b = board(12);
        for (int n = 0; n < 2; n++) {
            b.mill.board(16, 16, 4, 0);
            for (int t = 0; t < 40; t++) {
                put(b, t / 8 * 12 + t % 8, n, t / 8, t % 8);
            }
            answers(b, "save of 177 bytes", b.mill.save(), n, 0);
        }
        b.mill.board(16, 16, 4, 0);
        for (int t = 0; t < 5; t++) {
            put(b, t * 12, 2, t, 0);
        }
        put(b, 1, 2, 0, 1);
        put(b, 13, 2, 1, 1);
        put(b, 25, 2, 2, 1);
        put(b, 37, 2, 3, 1);
        // 354 and 22 and 18 and 1
        for (int n = 0; n < 6; n++) {
            answers(b, "sweep", b.mill.sweep(), 0, 0);
        }
        answers(b, "save without room for a byte", b.mill.save(), -1, 1);
        answers(b, "crash", one(b.mill.crash(359)), 1, 0);
        answers(b, "reopen", b.mill.reopen(), 2, 0);
        answers(b, "save that fills the log", b.mill.save(), 2, 0);
        answers(b, "sweep", b.mill.sweep(), -1, 1);
        answers(b, "crash", one(b.mill.crash(399)), 1, 0);
        answers(b, "reopen", b.mill.reopen(), 2, 0);
    }

    private static void editionRoom() {
        Bench b = board(12);
        for (int n = 0; n < 12; n++) {
            answers(b, "save", b.mill.save(), n, 0);
        }
        answers(b, "the 13th", b.mill.save(), -1, 1);
        b.mill.drop(3);
        answers(b, "a dropped one counts", b.mill.save(), -1, 1);
        b.mill.crash(11);
        answers(b, "reopen", b.mill.reopen(), 11, 0);
        answers(b, "save", b.mill.save(), 11, 0);
    }

    private static void blockRoom() {
        Bench b = board(12);
        // each save makes eight new blocks
        for (int n = 0; n < 3; n++) {
            b.mill.board(16, 16, 4, 0);
            for (int t = 0; t < 8; t++) {
                put(b, t, n, t, 0);
            }
            answers(b, "save", b.mill.save(), n, 0);
        }
        answers(b, "save of old blocks", b.mill.save(), 3, 0);
        b.mill.board(16, 16, 4, 0);
        put(b, 0, 3, 0, 0);
        answers(b, "a 25th block", b.mill.save(), -1, 1);
        for (int n = 0; n < 4; n++) {
            b.mill.drop(n);
        }
        answers(b, "sweep", b.mill.sweep(), 24, 0);
        answers(b, "numbers are not used again", b.mill.save(), -1, 1);
        // the last block's record is lost: 49 and 49, and 43 of the third 49
        b.mill.crash(98 + 47);
        answers(b, "reopen", b.mill.reopen(), 2, 0);
        answers(b, "row of seven and one", b.mill.save(), 2, 0);
    }

    private static void crashRoom() {
        Bench b = board(12);
        b.mill.save();
        for (int n = 0; n < 16; n++) {
            answers(b, "crash " + n, one(b.mill.crash(1)), 1, 0);
            answers(b, "reopen", b.mill.reopen(), 1, 0);
        }
        answers(b, "the 17th", one(b.mill.crash(1)), 0, 1);
        answers(b, "more than it has is ahead", one(b.mill.crash(2)), 0, 2);
        answers(b, "save", b.mill.save(), 1, 0);
    }

    private static void loaded() {
        Bench b = board(12);
        put(b, 13, 3, 15, 14);
        put(b, 0, 0, 1, 2);
        put(b, 1, 1, 3, 4);
        b.mill.save();
        answers(b, "load where all are", b.mill.load(0), 0, 0);
        answers(b, "load(1)", b.mill.load(1), -1, 2);
        answers(b, "load(-1)", b.mill.load(-1), -1, 2);
        b.mill.board(16, 16, 4, 9);
        answers(b, "load", b.mill.load(0), 3, 0);
        answers(b, "save", b.mill.save(), 1, 0);
        savedIs(b, 1, 13, 0, 3, 239, 1, 0, 1, 67, 0, 0, 0, 33);
        // in the order of the bytes: pad 1 is terminal 1
        b.mill.route(5);
        b.mill.cut();
        answers(b, "put of what was loaded", b.mill.put(1, 0, 0, 0, 0), -1, 4);
        b.mill.board(15, 15, 3, 9);
        answers(b, "load of what fits", b.mill.load(0), 2, 0);
    }

    private static void loadedWithRefusals() {
        Bench b = board(14);
        for (int t = 0; t < 8; t++) {
            put(b, t, 0, t, 0);
        }
        b.mill.save();
        b.mill.board(16, 16, 4, 0);
        for (int t = 8; t < 13; t++) {
            put(b, t, 0, t - 8, 0);
        }
        // route nets 5 to 11 come by pads 0 to 6, of which five are left out; the eighth would be a 13th one
        answers(b, "load", b.mill.load(0), 2, 0);
        b.mill.put(13, 0, 0, 9, 9);
        b.told(1);
        b.mill.put(14, 0, 0, 9, 9);
        b.told(0);
        b.mill.put(7, 0, 0, 9, 8);
        b.told(1);
    }

    // ---- by chance ----

    private static final class Model {
        List<List<Integer>> blocks = new ArrayList<>();
        List<Boolean> there = new ArrayList<>();
        List<List<Integer>> editions = new ArrayList<>();
        List<Boolean> dropped = new ArrayList<>();
        List<Integer> begun = new ArrayList<>();
        List<int[]> records = new ArrayList<>();

        int length() {
            int sum = 0;
            for (int[] r : records) {
                sum += r.length;
            }
            return sum;
        }

        int old(List<Integer> bytes) {
            for (int n = 0; n < blocks.size(); n++) {
                if (there.get(n) && blocks.get(n).equals(bytes)) {
                    return n;
                }
            }
            return -1;
        }

        int act(int[] record) {
            records.add(record);
            if (record[0] == 1) {
                List<Integer> bytes = new ArrayList<>();
                for (int n = 2; n < record.length; n++) {
                    bytes.add(record[n]);
                }
                blocks.add(bytes);
                there.add(true);
                begun.add(blocks.size() - 1);
            } else if (record[0] == 2) {
                begun.add(record[1]);
            } else if (record[0] == 3) {
                editions.add(begun);
                dropped.add(false);
                begun = new ArrayList<>();
            } else if (record[0] == 4) {
                editions.set(record[1], new ArrayList<>());
                dropped.set(record[1], true);
            } else {
                int count = 0;
                for (int n = 0; n < blocks.size(); n++) {
                    boolean used = begun.contains(n);
                    for (List<Integer> e : editions) {
                        used = used || e.contains(n);
                    }
                    if (there.get(n) && !used) {
                        there.set(n, false);
                        count++;
                    }
                }
                return count;
            }
            return 0;
        }

        int save(List<List<Integer>> nets) {
            List<int[]> acts = new ArrayList<>();
            int fresh = 0;
            int size = 1;
            for (List<Integer> bytes : nets) {
                int old = old(bytes);
                int[] record = old >= 0 ? new int[] {2, old} : new int[bytes.size() + 2];
                if (old < 0) {
                    fresh++;
                    record[0] = 1;
                    record[1] = bytes.size();
                    for (int n = 0; n < bytes.size(); n++) {
                        record[n + 2] = bytes.get(n);
                    }
                }
                size += record.length;
                acts.add(record);
            }
            if (begun.size() + nets.size() > 8 || blocks.size() + fresh > 24 || editions.size() == 12 || length() + size > 400) {
                return -1;
            }
            acts.forEach(this::act);
            act(new int[] {3});
            return editions.size() - 1;
        }

        Model again(int kept) {
            Model m = new Model();
            int at = 0;
            for (int[] r : records) {
                at += r.length;
                if (at > kept) {
                    break;
                }
                m.act(r);
            }
            return m;
        }
    }

    private static void oneStore() {
        int nets = 3 + random.nextInt(8);
        Bench b = board(nets);
        Model m = new Model();
        List<int[]> pads = new ArrayList<>();
        List<Integer> routeNets = new ArrayList<>();
        int boards = 1;
        int lost = 0;
        for (int act = 0; act < 70; act++) {
            int which = random.nextInt(12);
            if (which < 2) {
                int t = random.nextInt(60);
                int[] place = {random.nextInt(4), random.nextInt(16), random.nextInt(16)};
                if (b.mill.put(t, 0, place[0], place[1], place[2]) >= 0) {
                    pads.add(new int[] {t, place[0], 16 * place[2] + place[1]});
                    if (!routeNets.contains(t % nets)) {
                        routeNets.add(t % nets);
                    }
                }
            } else if (which < 6) {
                List<List<Integer>> blocks = new ArrayList<>();
                for (int net : routeNets) {
                    List<Integer> bytes = new ArrayList<>();
                    for (int[] p : pads) {
                        if (p[0] % nets == net) {
                            bytes.addAll(List.of(p[0], 0, p[1], p[2]));
                        }
                    }
                    // a route net without pads is not saved
                    if (!bytes.isEmpty()) {
                        blocks.add(bytes);
                    }
                }
                int want = m.save(blocks);
                fulls += want < 0 ? 1 : 0;
                answers(b, "save", b.mill.save(), want, want < 0 ? 1 : 0);
            } else if (which == 6 && !m.editions.isEmpty()) {
                int e = random.nextInt(m.editions.size());
                int why = m.dropped.get(e) ? 4 : m.length() + 2 > 400 ? 1 : 0;
                answers(b, "drop", one(b.mill.drop(e)), why == 0 ? 1 : 0, why);
                if (why == 0) {
                    m.act(new int[] {4, e});
                }
            } else if (which == 7) {
                boolean full = m.length() + 1 > 400;
                int want = full ? -1 : m.act(new int[] {5});
                answers(b, "sweep", b.mill.sweep(), want, full ? 1 : 0);
            } else if (which == 8 && lost < 16) {
                int kept = Math.max(0, m.length() - random.nextInt(1 + m.length()) / (1 + random.nextInt(20)));
                answers(b, "crash", one(b.mill.crash(kept)), 1, 0);
                m = m.again(kept);
                answers(b, "reopen", b.mill.reopen(), m.editions.size(), 0);
                crashes++;
                lost++;
            } else if (which == 9 && boards < 6 && random.nextInt(3) == 0) {
                b.mill.board(16, 16, 4, 0);
                boards++;
                pads.clear();
                routeNets.clear();
                if (!m.editions.isEmpty()) {
                    loadAll(b, m.editions.get(random.nextInt(m.editions.size())), m, pads, routeNets, nets);
                }
            }
            compare(b, m);
        }
    }

    private static void loadAll(Bench b, List<Integer> edition, Model m, List<int[]> pads, List<Integer> routeNets, int nets) {
        int number = m.editions.indexOf(edition);
        Set<Integer> seen = new HashSet<>();
        Set<List<Integer>> cells = new HashSet<>();
        int count = 0;
        for (int block : edition) {
            List<Integer> bytes = m.blocks.get(block);
            for (int n = 0; n < bytes.size(); n += 4) {
                int t = bytes.get(n);
                if (seen.contains(t)) {
                    continue;
                }
                if (!routeNets.contains(t % nets)) {
                    routeNets.add(t % nets);
                }
                int ofNet = 0;
                for (int[] p : pads) {
                    ofNet += p[0] % nets == t % nets ? 1 : 0;
                }
                if (ofNet < 5 && cells.add(List.of(bytes.get(n + 2), bytes.get(n + 3)))) {
                    seen.add(t);
                    pads.add(new int[] {t, bytes.get(n + 2), bytes.get(n + 3)});
                    count++;
                }
            }
        }
        loads += count;
        answers(b, "load", b.mill.load(number), count, 0);
    }

    private static void compare(Bench b, Model m) {
        for (int e = 0; e <= m.editions.size(); e++) {
            int at = 0;
            if (e < m.editions.size()) {
                for (int block : m.editions.get(e)) {
                    for (int value : m.blocks.get(block)) {
                        Bench.due("saved", b.mill.saved(e, at), value);
                        at++;
                    }
                }
            }
            Bench.due("saved behind", b.mill.saved(e, at), -1);
        }
    }
}
