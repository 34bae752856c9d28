/** Promises 12 to 19: boards, pads, bars, costs, and ways, each with its edges. */
public final class BoardTest {
    public static void main(String[] args) {
        boards();
        sizes();
        pads();
        padsTaken();
        padRooms();
        routeNetsOfTaken();
        bars();
        costs();
        newCosts();
        routes();
        wayOrder();
        acrossAndVia();
        near();
        ripping();
        blocked();
        openAgain();
        drawingOfTheBoard();
        Bench.finish("BoardTest");
    }

    private static Bench board(int nets, int x, int y, int layers) {
        Bench b = Sixty.drawn(nets);
        Bench.due("board", b.mill.board(x, y, layers, 1), 0);
        return b;
    }

    private static void put(Bench b, int t, int layer, int i, int j, int want) {
        Bench.due("put(" + t + ", 0, " + layer + ", " + i + ", " + j + ")", b.mill.put(t, 0, layer, i, j), want);
    }

    private static void refused(Bench b, int t, int layer, int i, int j, int why) {
        put(b, t, layer, i, j, -1);
        b.told(why);
    }

    private static void wayIs(Bench b, int net, String want) {
        StringBuilder got = new StringBuilder();
        for (int k = 0; b.mill.way(net, k, 0) != -1; k++) {
            got.append(b.mill.way(net, k, 0)).append(b.mill.way(net, k, 1)).append(b.mill.way(net, k, 2)).append(' ');
        }
        Bench.due("way of " + net, got.toString(), want);
    }

    private static void boards() {
        Bench b = new Bench();
        Bench.due("board without a drawing", b.mill.board(2, 2, 2, 2), -1);
        b.told(3);
        Bench.due("put", b.mill.put(0, 0, 0, 0, 0), -1);
        b.told(3);
        Bench.due("bar", b.mill.bar(0, 0, 0), false);
        b.told(3);
        Bench.due("cost", b.mill.cost(0, 0, 0, 99), false);
        b.told(3);
        Bench.due("route", b.mill.route(0), -1);
        b.told(3);
        Bench.due("way", b.mill.way(0, 0, 0), -1);
        b.sheets(0, "(design 3)");
        for (int n = 0; n < 6; n++) {
            Bench.due("board", b.mill.board(n, 2, 2, n), n);
            b.told(0);
        }
        Bench.due("the seventh board", b.mill.board(2, 2, 2, 2), -1);
        b.told(1);
        Bench.due("the sixth one stays", b.mill.bar(1, 1, 1), true);
    }

    private static void sizes() {
        Bench b = Sixty.drawn(12);
        b.mill.board(0, -5, Integer.MIN_VALUE, 0);
        Bench.due("bar 0 0 0", b.mill.bar(0, 0, 0), true);
        Bench.due("bar 0 1 0", b.mill.bar(0, 1, 0), false);
        b.told(2);
        Bench.due("bar 0 0 1", b.mill.bar(0, 0, 1), false);
        Bench.due("bar 1 0 0", b.mill.bar(1, 0, 0), false);
        b.mill.board(17, Integer.MAX_VALUE, 5, 0);
        Bench.due("bar 3 15 15", b.mill.bar(3, 15, 15), true);
        Bench.due("bar 4 0 0", b.mill.bar(4, 0, 0), false);
        Bench.due("bar 0 16 0", b.mill.bar(0, 16, 0), false);
        Bench.due("bar 0 0 16", b.mill.bar(0, 0, 16), false);
        Bench.due("bar -1", b.mill.bar(-1, 0, 0), false);
        Bench.due("bar -1", b.mill.bar(0, -1, 0), false);
        Bench.due("bar -1", b.mill.bar(0, 0, -1), false);
        Bench.due("a new board has no bars", b.mill.board(16, 16, 4, 0), 2);
        Bench.due("bar 3 15 15", b.mill.bar(3, 15, 15), true);
    }

    private static void pads() {
        Bench b = board(12, 4, 3, 2);
        put(b, 0, 0, 0, 0, 0);
        put(b, 59, 1, 3, 2, 1);
        refused(b, 60, 0, 1, 1, 2);
        refused(b, -1, 0, 1, 1, 2);
        refused(b, 1, 2, 1, 1, 2);
        refused(b, 1, 0, 4, 1, 2);
        refused(b, 1, 0, 1, 3, 2);
        refused(b, 1, -1, 1, 1, 2);
        refused(b, 1, 0, -1, 1, 2);
        refused(b, 1, 0, 1, -1, 2);
        Bench.due("no such copy", b.mill.put(1, 1, 0, 1, 1), -1);
        b.told(2);
        Bench.due("no such copy", b.mill.put(1, -1, 0, 1, 1), -1);
        b.told(2);
        refused(b, 0, 0, 1, 1, 4);
        // what is no such cell is ahead of a copy that has a pad
        refused(b, 0, 0, 9, 1, 2);
        put(b, 12, 0, 1, 0, 2);
        b.told(0);
    }

    private static void padsTaken() {
        Bench b = board(12, 8, 2, 1);
        b.mill.bar(0, 0, 0);
        refused(b, 0, 0, 0, 0, 4);
        put(b, 0, 0, 1, 0, 0);
        refused(b, 1, 0, 1, 0, 4);
        refused(b, 12, 0, 1, 0, 4);
        put(b, 12, 0, 4, 0, 1);
        Bench.due("route", b.mill.route(1), 0);
        refused(b, 1, 0, 2, 0, 4);
        refused(b, 2, 0, 3, 0, 4);
        // a pad on a cell of its own way
        put(b, 24, 0, 2, 0, 2);
        Bench.due("costOf", b.mill.costOf(0), -1);
        // it holds its pads alone now
        put(b, 1, 0, 3, 0, 3);
        put(b, 36, 0, 5, 0, 4);
        put(b, 48, 0, 6, 0, 5);
        Bench c = board(11, 8, 2, 1);
        for (int n = 0; n < 5; n++) {
            put(c, 11 * n, 0, n, 0, n);
        }
        refused(c, 55, 0, 5, 0, 4);
    }

    private static void padRooms() {
        Bench b = board(15, 16, 16, 1);
        for (int t = 0; t < 12; t++) {
            put(b, t, 0, t, 0, t);
        }
        refused(b, 12, 0, 12, 0, 1);
        put(b, 15, 0, 0, 1, 12);
        // a net that is too much is ahead of a cell that is taken; a copy that has a pad is ahead of it
        refused(b, 13, 0, 0, 0, 1);
        refused(b, 0, 0, 0, 0, 4);
        Bench c = board(12, 16, 16, 1);
        for (int t = 0; t < 40; t++) {
            put(c, t, 0, t % 16, t / 16, t);
        }
        refused(c, 40, 0, 15, 15, 1);
        refused(c, 39, 0, 15, 15, 4);
        refused(c, 60, 0, 15, 15, 2);
    }

    private static void routeNetsOfTaken() {
        Bench b = board(15, 16, 1, 1);
        b.mill.bar(0, 0, 0);
        refused(b, 3, 0, 0, 0, 4);
        refused(b, 3, 0, 0, 0, 4);
        put(b, 5, 0, 1, 0, 0);
        b.mill.facts();
        // route net 0 is net 3 of the sheets, without pads, and neither open nor led
        Bench.due("route", b.mill.route(1), 0);
        wayIs(b, 0, "");
        Bench.due("costOf(0)", b.mill.costOf(0), -1);
        wayIs(b, 1, "010 ");
        Bench.due("costOf(1)", b.mill.costOf(1), 0);
        for (int t = 6; t < 15; t++) {
            put(b, t, 0, t, 0, t - 5);
        }
        put(b, 0, 0, 15, 0, 10);
        refused(b, 1, 0, 2, 0, 1);
        put(b, 3, 0, 2, 0, 11);
    }

    private static void bars() {
        Bench b = board(12, 3, 3, 1);
        Bench.due("bar", b.mill.bar(0, 1, 1), true);
        b.told(0);
        Bench.due("bar", b.mill.bar(0, 1, 1), false);
        b.told(4);
        put(b, 0, 0, 0, 0, 0);
        Bench.due("bar on a pad", b.mill.bar(0, 0, 0), false);
        b.told(4);
        put(b, 12, 0, 2, 0, 1);
        b.mill.route(1);
        Bench.due("bar on a way", b.mill.bar(0, 1, 0), false);
        b.told(4);
        put(b, 24, 0, 2, 2, 2);
        Bench.due("bar on a way that is no more", b.mill.bar(0, 1, 0), true);
        Bench.due("route", b.mill.route(1), 0);
        wayIs(b, 0, "000 022 012 002 001 020 021 ");
    }

    private static void costs() {
        Bench b = board(12, 3, 3, 2);
        Bench.due("cost", b.mill.cost(0, 50, 50, 50), true);
        Bench.due("cost", b.mill.cost(0, 50, 50, 50), true);
        Bench.due("cost", b.mill.cost(1, 0, 0, 0), true);
        b.told(0);
        int[][] wrong = {{2, 0, 0, 0}, {-1, 0, 0, 0}, {0, 51, 0, 0}, {0, 0, 51, 0}, {0, 0, 0, 51}, {0, -1, 0, 0}, {0, 0, -1, 0}, {0, 0, 0, -1}};
        for (int[] w : wrong) {
            Bench.due("cost", b.mill.cost(w[0], w[1], w[2], w[3]), false);
            b.told(2);
        }
    }

    /** A new board has none of what the one before had. */
    private static void newCosts() {
        Bench b = board(12, 4, 4, 2);
        b.mill.cost(0, 50, 50, 50);
        b.mill.cost(1, 50, 50, 50);
        b.mill.board(4, 4, 2, 1);
        put(b, 0, 0, 0, 0, 0);
        put(b, 12, 1, 3, 3, 1);
        b.mill.route(1);
        Bench.due("costOf", b.mill.costOf(0), 14);
        b.mill.cost(0, 50, 50, 50);
        b.mill.cost(1, 50, 50, 50);
        Bench.due("costs change no way that is led", b.mill.costOf(0), 14);
        put(b, 24, 0, 0, 3, 2);
        b.mill.route(1);
        // along i, down, along j; then up, and along i
        Bench.due("costOf", b.mill.costOf(0), 6 + 52 + 6 + 52 + 6);
    }

    private static void routes() {
        Bench b = board(12, 3, 3, 2);
        Bench.due("route(0)", b.mill.route(0), -1);
        b.told(2);
        Bench.due("route(21)", b.mill.route(21), -1);
        b.told(2);
        Bench.due("route(20)", b.mill.route(20), 0);
        b.told(0);
        put(b, 0, 0, 0, 0, 0);
        Bench.due("way", b.mill.way(0, 0, 0), -1);
        Bench.due("costOf", b.mill.costOf(0), -1);
        Bench.due("route(1)", b.mill.route(1), 0);
        wayIs(b, 0, "000 ");
        Bench.due("way what", b.mill.way(0, 0, 3), -1);
        Bench.due("way what", b.mill.way(0, 0, -1), -1);
        Bench.due("way k", b.mill.way(0, -1, 0), -1);
        Bench.due("way k", b.mill.way(0, 1, 0), -1);
        Bench.due("way net", b.mill.way(-1, 0, 0), -1);
        Bench.due("way net", b.mill.way(12, 0, 0), -1);
        Bench.due("costOf", b.mill.costOf(0), 0);
        Bench.due("costOf", b.mill.costOf(12), -1);
        Bench.due("costOf", b.mill.costOf(-1), -1);
    }

    private static void wayOrder() {
        Bench b = board(12, 5, 5, 1);
        put(b, 0, 0, 2, 2, 0);
        put(b, 12, 0, 4, 4, 1);
        put(b, 24, 0, 0, 2, 2);
        put(b, 36, 0, 2, 0, 3);
        b.mill.route(1);
        // pad 2 is as near as pad 3, and ahead of it; back by the lowest numbers
        wayIs(b, 0, "022 002 012 020 021 044 043 042 032 ");
        Bench.due("costOf", b.mill.costOf(0), 16);
    }

    private static void acrossAndVia() {
        Bench b = board(12, 3, 4, 2);
        put(b, 0, 0, 0, 0, 0);
        put(b, 12, 0, 0, 3, 1);
        b.mill.cost(0, 10, 1, 0);
        b.mill.cost(1, 40, 50, 0);
        // along j on layer 1: three steps of 2, and two of 3 to it and back; 36 on layer 0
        b.mill.route(1);
        Bench.due("costOf", b.mill.costOf(0), 12);
        wayIs(b, 0, "000 003 103 102 101 100 ");
        Bench c = board(12, 4, 3, 2);
        put(c, 0, 1, 0, 0, 0);
        put(c, 12, 1, 3, 0, 1);
        c.mill.cost(1, 10, 50, 0);
        c.mill.cost(0, 50, 3, 0);
        // along i on layer 1 is across: by layer 0, whose via it is both ways
        c.mill.route(1);
        Bench.due("costOf", c.mill.costOf(0), 16);
        Bench d = board(12, 1, 3, 4);
        put(d, 0, 2, 0, 0, 0);
        put(d, 12, 3, 0, 2, 1);
        d.mill.cost(2, 5, 7, 0);
        d.mill.cost(3, 0, 50, 0);
        d.mill.cost(0, 0, 50, 0);
        d.mill.cost(1, 0, 50, 0);
        d.mill.route(1);
        Bench.due("costOf", d.mill.costOf(0), 13);
        wayIs(d, 0, "200 302 301 300 ");
    }

    private static void near() {
        Bench b = board(12, 5, 3, 1);
        put(b, 0, 0, 0, 1, 0);
        put(b, 12, 0, 4, 1, 1);
        put(b, 1, 0, 2, 0, 2);
        b.mill.cost(0, 0, 0, 5);
        b.mill.route(1);
        // past 2 0: one cell beside it held, or around it
        Bench.due("costOf", b.mill.costOf(0), 12);
        wayIs(b, 0, "001 041 031 032 022 012 011 ");
    }

    private static void ripping() {
        Bench b = board(12, 3, 3, 1);
        put(b, 0, 0, 0, 1, 0);
        put(b, 12, 0, 2, 1, 1);
        Bench.due("route", b.mill.route(1), 0);
        put(b, 1, 0, 1, 0, 2);
        put(b, 13, 0, 1, 2, 3);
        Bench.due("route", b.mill.route(1), 1);
        // the way of net 0 was ripped by that of net 1
        Bench.due("costOf(0)", b.mill.costOf(0), -1);
        Bench.due("costOf(1)", b.mill.costOf(1), 104);
        Bench.due("blocking(0, 0)", b.mill.blocking(0, 0), -1);
        b.mill.facts();
        b.feed("!@0:4;!@1:4;");
        b.mill.program();
        b.mill.run(9);
        Bench.due("net 0 was ripped", b.mill.output(0), 1);
        Bench.due("net 1 was not ripped", b.mill.output(1), 0);
        // net 0 rips net 1 in turn: the cell's history is 1 now
        Bench.due("route", b.mill.route(1), 1);
        Bench.due("costOf(0)", b.mill.costOf(0), 105);
        Bench.due("costOf(1)", b.mill.costOf(1), -1);
    }

    private static void blocked() {
        Bench b = board(12, 5, 1, 1);
        put(b, 0, 0, 0, 0, 0);
        put(b, 1, 0, 1, 0, 1);
        put(b, 2, 0, 3, 0, 2);
        put(b, 12, 0, 4, 0, 3);
        Bench.due("route", b.mill.route(3), 1);
        Bench.due("blocking(0, 0)", b.mill.blocking(0, 0), 1);
        Bench.due("blocking(0, 1)", b.mill.blocking(0, 1), -1);
        Bench.due("blocking(0, -1)", b.mill.blocking(0, -1), -1);
        Bench.due("blocking(1, 0)", b.mill.blocking(1, 0), -1);
        Bench.due("blocking(12, 0)", b.mill.blocking(12, 0), -1);
        Bench.due("blocking(-1, 0)", b.mill.blocking(-1, 0), -1);
        Bench.due("costOf(1)", b.mill.costOf(1), 0);
        Bench.due("costOf(0)", b.mill.costOf(0), -1);
        Bench c = board(12, 3, 3, 1);
        put(c, 0, 0, 1, 1, 0);
        put(c, 5, 0, 1, 0, 1);
        put(c, 3, 0, 0, 1, 2);
        put(c, 2, 0, 2, 1, 3);
        put(c, 7, 0, 1, 2, 4);
        put(c, 12, 0, 2, 2, 5);
        Bench.due("route", c.mill.route(20), 1);
        for (int k = 0; k < 4; k++) {
            Bench.due("blocking(0, " + k + ")", c.mill.blocking(0, k), k + 1);
        }
        Bench.due("blocking(0, 4)", c.mill.blocking(0, 4), -1);
        // a pad more does not change by whom it was blocked
        put(c, 24, 0, 0, 0, 6);
        Bench.due("blocking(0, 3)", c.mill.blocking(0, 3), 4);
    }

    private static void openAgain() {
        Bench b = board(12, 6, 2, 1);
        put(b, 0, 0, 0, 0, 0);
        put(b, 12, 0, 3, 0, 1);
        b.mill.route(1);
        wayIs(b, 0, "000 030 020 010 ");
        put(b, 24, 0, 5, 0, 2);
        wayIs(b, 0, "");
        Bench.due("route", b.mill.route(1), 0);
        wayIs(b, 0, "000 030 020 010 050 040 ");
        // a refused pad leaves it led
        refused(b, 36, 0, 5, 0, 4);
        Bench.due("costOf", b.mill.costOf(0), 10);
    }

    private static void drawingOfTheBoard() {
        Bench b = board(12, 6, 2, 1);
        Bench.due("another drawing", b.sheets(0, "(design 3)"), 1);
        put(b, 0, 0, 0, 0, 0);
        Bench.due("a board of it", b.mill.board(6, 2, 1, 0), 1);
        refused(b, 0, 0, 0, 0, 2);
        Bench.due("copies", b.sheets(1, "design 3\n.sheet 0 \"a\"\n..symbol 0 0 \"\"\n...unit 1\n....pin 0 0 \"\" 0\n.sheet 0 \"b\"\n..field \"of\" \"a\"\n"), 7);
        b.mill.board(6, 2, 1, 0);
        Bench.due("copy 1", b.mill.put(0, 1, 0, 0, 0), 0);
        Bench.due("copy 0", b.mill.put(0, 0, 0, 1, 0), 1);
        Bench.due("copy 2", b.mill.put(0, 2, 0, 2, 0), -1);
        b.told(2);
    }
}
