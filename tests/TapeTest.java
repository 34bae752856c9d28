/** Promises 1, 2, 3 and 50: a new object, the tape, and told(). */
public final class TapeTest {
    public static void main(String[] args) {
        newObject();
        tapeRoom();
        ends();
        leftOut();
        toldStays();
        Bench.finish("TapeTest");
    }

    private static void newObject() {
        BoardMill x = new BoardMill();
        Bench.due("NONE", BoardMill.NONE, -1);
        Bench.due("told()", x.told(), 0);
        Bench.due("kind(0)", x.kind(0), -1);
        Bench.due("number(0, 0)", x.number(0, 0), 0);
        Bench.due("written(0)", x.written(0), -1);
        Bench.due("nets()", x.nets(), 0);
        Bench.due("netOf(0, 0)", x.netOf(0, 0), -1);
        Bench.due("nameOf(0)", x.nameOf(0), -1000);
        Bench.due("remark(0)", x.remark(0), -1);
        Bench.due("way(0, 0, 0)", x.way(0, 0, 0), -1);
        Bench.due("costOf(0)", x.costOf(0), -1);
        Bench.due("blocking(0, 0)", x.blocking(0, 0), -1);
        Bench.due("violations()", x.violations(), -1);
        Bench.due("violation(0, 0)", x.violation(0, 0), -1);
        Bench.due("copper(0)", x.copper(0), -1);
        Bench.due("airline(0, 0, 0)", x.airline(0, 0, 0), -1);
        Bench.due("shorts()", x.shorts(), -1);
        Bench.due("exact()", x.exact(), false);
        Bench.due("drill(0, 0)", x.drill(0, 0), -1);
        Bench.due("reread(0)", x.reread(0), -1);
        Bench.due("output(0)", x.output(0), 1L << 40);
        Bench.due("error(0)", x.error(0), 0);
        Bench.due("error(1)", x.error(1), -1);
        Bench.due("error(2)", x.error(2), 0);
        Bench.due("error(3)", x.error(3), -1);
        Bench.due("demand(0)", x.demand(0), -1);
        Bench.due("saved(0, 0)", x.saved(0, 0), -1);
        Bench.due("root(0, 0)", x.root(0, 0), -1);
        Bench.due("proof(0, 0, 0)", x.proof(0, 0, 0), -1);
        Bench.due("check(0, 0, -1, 0)", x.check(0, 0, -1, 0), -1);
        Bench.due("told()", x.told(), 0);
    }

    private static void tapeRoom() {
        Bench b = new Bench();
        for (int n = 0; n < 200; n++) {
            Bench.due("feed " + n, b.mill.feed(n, -1, 1 << 31, 0, 7), true);
        }
        Bench.due("feed beyond 4,000", b.mill.feed(0, 0, 0, 0, 0), false);
        b.told(1);
        Bench.due("end(4000)", b.mill.end(4000), true);
        b.told(0);
        Bench.due("end(3981)", b.mill.end(3981), true);
        Bench.due("feed with room for 19", b.mill.feed(0, 0, 0, 0, 0), false);
        Bench.due("end(3980)", b.mill.end(3980), true);
        Bench.due("feed with room for 20", b.mill.feed(0, 0, 0, 0, 0), true);
    }

    private static void ends() {
        Bench b = new Bench();
        Bench.due("end(0)", b.mill.end(0), true);
        Bench.due("end(1)", b.mill.end(1), false);
        b.told(2);
        Bench.due("end(-1)", b.mill.end(-1), false);
        b.told(2);
        b.mill.feed(1, 2, 3, 4, 5);
        b.told(0);
        Bench.due("end(21)", b.mill.end(21), false);
        Bench.due("end(MIN)", b.mill.end(Integer.MIN_VALUE), false);
        Bench.due("end(MAX)", b.mill.end(Integer.MAX_VALUE), false);
        Bench.due("end(20)", b.mill.end(20), true);
        Bench.due("end(5)", b.mill.end(5), true);
        Bench.due("end(6)", b.mill.end(6), false);
    }

    /** Bytes that are no characters of a text are left out; a fault's place is that in what is left. */
    private static void leftOut() {
        Bench b = new Bench();
        Bench.due("sheets with bytes left out", b.sheets(0, "\0(de\t\u0007sign\u00ff 3\r)\u007f\n"), 1);
        Bench.due("fault with bytes left out", b.sheets(0, "\0\0(de\0sign 3]"), -2 - 9);
        Bench.due("the tape is used up", b.mill.sheets(0), -2);
        Bench.due("a script with bytes left out", b.program("\0\r!1;\u0080\n"), 1);
        Bench.due("a tape of a script is used up", b.mill.program(), 0);
        Bench.due("a faulty tape of a script", b.program("x"), -3);
        Bench.due("a faulty tape of a script is used up", b.mill.program(), 0);
        StringBuilder longer = new StringBuilder("!1;");
        longer.append("\n".repeat(396)).append("\0").append("\n").append("x");
        Bench.due("what is behind a script's room is left out", b.program(longer.toString()), 1);
        Bench.due("the 400th character is in it", b.program("!1;" + "\n".repeat(396) + "x\n"), -2 - 400);
    }

    private static void toldStays() {
        Bench b = new Bench();
        b.mill.end(3);
        b.told(2);
        b.mill.kind(0);
        b.mill.number(5, 5);
        b.mill.written(-1);
        b.mill.nets();
        b.mill.netOf(-1, 0);
        b.mill.nameOf(9);
        b.mill.remark(9);
        b.mill.way(0, 0, 0);
        b.mill.costOf(0);
        b.mill.blocking(0, 0);
        b.mill.violations();
        b.mill.violation(0, 0);
        b.mill.copper(0);
        b.mill.airline(0, 0, 0);
        b.mill.shorts();
        b.mill.exact();
        b.mill.drill(0, 0);
        b.mill.reread(0);
        b.mill.output(0);
        b.mill.error(9);
        b.mill.demand(0);
        b.mill.saved(0, 0);
        b.mill.root(0, 0);
        b.mill.proof(0, 0, 0);
        b.mill.check(0, 0, 0, 0);
        b.told(2);
    }
}
