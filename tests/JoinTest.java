import java.util.List;

/** Promises 8 to 11: what sheets join, the names of nets, and the remarks. */
public final class JoinTest {
    public static void main(String[] args) {
        withoutDrawing();
        wires();
        junctions();
        labels();
        namesForAll();
        samePlaces();
        terminals();
        repeats();
        ports();
        portsBeyondRoom();
        remarks();
        sheetsBeyondRoom();
        rooms();
        farPlaces();
        fullSheets();
        drawingStays();
        Bench.finish("JoinTest");
    }

    private static Bench drawn(String... lines) {
        Bench b = new Bench();
        int objects = b.sheets(1, "design 3\n" + String.join("\n", lines) + "\n");
        Bench.due("objects of " + String.join("/", lines), objects > 0, true);
        return b;
    }

    /** A symbol on a sheet with a pin at each of some places. */
    private static String pins(String... places) {
        StringBuilder all = new StringBuilder("..symbol 0 0 \"S\"\n...unit 1");
        for (String place : places) {
            all.append("\n....pin ").append(place).append(" \"p\" 0");
        }
        return all.toString();
    }

    private static void netsAre(Bench b, int... want) {
        int most = -1;
        for (int t = 0; t < want.length; t++) {
            Bench.due("netOf(" + t + ", 0)", b.mill.netOf(t, 0), want[t]);
            most = Math.max(most, want[t]);
        }
        Bench.due("netOf behind the last", b.mill.netOf(want.length, 0), -1);
    }

    private static void withoutDrawing() {
        Bench b = new Bench();
        b.sheets(0, "(design");
        Bench.due("nets()", b.mill.nets(), 0);
        Bench.due("netOf(0, 0)", b.mill.netOf(0, 0), -1);
        Bench.due("nameOf(0)", b.mill.nameOf(0), -1000);
        Bench.due("remark(0)", b.mill.remark(0), -1);
        b.sheets(0, "(design 3)");
        Bench.due("nets()", b.mill.nets(), 0);
    }

    private static void wires() {
        Bench b = drawn(".sheet 1 \"a\"", pins("0 0", "4 0", "4 4", "2 0", "2 2", "9 9"),
            "..wire 0 0 4 0", "..wire 4 4 4 0", "..wire 2 2 5 2", "..wire 9 9 9 9");
        // 2 2 .. 5 2 crosses 4 0 .. 4 4 without a common end
        netsAre(b, 0, 0, 0, 0, 1, 2);
        Bench.due("nets()", b.mill.nets(), 3);
        Bench.due("netOf(0, 1)", b.mill.netOf(0, 1), -1);
        Bench.due("netOf(0, -1)", b.mill.netOf(0, -1), -1);
        Bench.due("netOf(-1, 0)", b.mill.netOf(-1, 0), -1);
        Bench.due("nameOf(1)", b.mill.nameOf(1), -5);
        Bench.due("nameOf(2)", b.mill.nameOf(2), -6);
        Bench.due("nameOf(3)", b.mill.nameOf(3), -1000);
        Bench.due("nameOf(-1)", b.mill.nameOf(-1), -1000);
        Bench c = drawn(".sheet 1 \"a\"", pins("0 0", "3 1", "2 1", "6 2", "7 2"), "..wire 0 0 6 2", "..wire 7 2 3 1",
            ".sheet 1 \"b\"", pins("0 0", "6 2"));
        // the slanting wire goes through 3 1; another one's end on it joins nothing, but the terminal there does
        netsAre(c, 0, 0, 1, 0, 0, 2, 3);
        Bench d = drawn(".sheet 1 \"a\"", pins("0 0", "4 0", "2 3"), "..wire 0 0 4 0", "..wire 2 0 2 3");
        netsAre(d, 0, 0, 1);
        Bench e = drawn(".sheet 1 \"a\"", pins("0 0", "1 0", "2 0", "-1 0", "1 0.000001"), "..wire 0 0 1 0");
        netsAre(e, 0, 0, 1, 2, 3);
    }

    private static void junctions() {
        String[] lines = {".sheet 1 \"a\"", pins("0 2", "2 0", "0 9"), "..wire 0 2 4 2", "..wire 2 0 2 4", "..wire 0 9 9 9"};
        netsAre(drawn(lines), 0, 1, 2);
        Bench b = drawn(String.join("\n", lines), "..note 2 2 \"+\" 1");
        netsAre(b, 0, 0, 1);
        netsAre(drawn(String.join("\n", lines), "..note 2 2 \"++\" 1", "..note 2 3 \"+\" 1"), 0, 1, 2);
        // a junction on another sheet, and one in a unit
        netsAre(drawn(String.join("\n", lines), ".sheet 2 \"b\"", "..note 2 2 \"+\" 1"), 0, 1, 2);
        netsAre(drawn(".sheet 1 \"a\"", pins("0 2", "2 0"), "....note 2 2 \"+\" 1", "..wire 0 2 4 2", "..wire 2 0 2 4"), 0, 1);
        // a junction joins wires, and no terminal to another junction
        netsAre(drawn(".sheet 1 \"a\"", pins("0 0", "5 5"), "..note 0 0 \"+\" 1", "..note 5 5 \"+\" 1"), 0, 1);
    }

    private static void labels() {
        Bench b = drawn(".sheet 1 \"a\"", pins("0 0", "1 0", "2 0", "3 0", "4 0"),
            "..note 0 0 \"7\" 1", "..note 1 0 \"007\" 1", "..note 2 0 \"12\" 1", "..note 3 0 \"1234\" 1", "..note 4 0 \"7a\" 1",
            ".sheet 2 \"b\"", pins("0 0", "9 9"), "..note 0 0 \"7\" 1", "..note 9 9 \"^7\" 1");
        // names are those of one sheet; a port without a parent joins on its own sheet alone
        netsAre(b, 0, 0, 1, 2, 3, 4, 4);
        Bench.due("nameOf(0)", b.mill.nameOf(0), 7);
        Bench.due("nameOf(1)", b.mill.nameOf(1), 12);
        Bench.due("nameOf(2)", b.mill.nameOf(2), -4);
        Bench.due("nameOf(4)", b.mill.nameOf(4), 7);
        Bench.due("remark(0)", b.mill.remark(0), -1);
        Bench c = drawn(".sheet 1 \"a\"", pins("0 0", "5 0"), "..wire 0 0 2 0", "..wire 5 0 7 0", "..note 1 0 \"0\" 1", "..note 7 0 \"0\" 1");
        netsAre(c, 0, 0);
        Bench.due("nameOf(0)", c.mill.nameOf(0), 0);
        Bench d = drawn(".sheet 1 \"a\"", pins("0 0", "5 0"), "....note 0 0 \"3\" 1", "....note 5 0 \"3\" 1", "..note 0 0 \"\" 1",
            "..note 0 0 \"^\" 1", "..note 0 0 \"^1234\" 1", "..note 0 0 \"-1\" 1", "..note 0 0 \" 1\" 1", "..note 0 0 \"^^1\" 1");
        netsAre(d, 0, 1);
        Bench.due("nameOf(0)", d.mill.nameOf(0), -1);
    }

    private static void namesForAll() {
        Bench b = drawn(".sheet 1 \"a\"", pins("0 0", "1 0"), "..note 0 0 \"900\" 1", "..note 1 0 \"899\" 1",
            ".sheet 2 \"b\"", pins("5 0", "6 0"), "..note 5 0 \"900\" 1", "..note 6 0 \"899\" 1");
        netsAre(b, 0, 1, 0, 2);
        Bench.due("nameOf(0)", b.mill.nameOf(0), 900);
        // the names of the first sheet are not those for all
        Bench c = drawn(".sheet 1 \"a\"", pins("0 0"), "..note 0 0 \"999\" 1", ".sheet 2 \"b\"", pins("5 0"), "..note 5 0 \"999\" 1");
        netsAre(c, 0, 0);
    }

    private static void samePlaces() {
        Bench b = drawn(".sheet 1 \"a\"", pins("0 0", "2 0"), "..symbol 1 1 \"T\"\n...unit 1\n....pin -1 -1 \"x\" 1\n....pin 1 1 \"x\" 1",
            "..note 2 0 \"5\" 1", "..note 2 2 \"6\" 1", "..note 2 2 \"5\" 1");
        netsAre(b, 0, 1, 0, 1);
        Bench.due("nameOf(1)", b.mill.nameOf(1), 5);
        Bench.due("remark(0)", b.mill.remark(0), 1006);
        Bench.due("remark(1)", b.mill.remark(1), -1);
    }

    private static void terminals() {
        // the same symbol has one at the place already, in another unit too; another symbol may have it
        Bench b = drawn(".sheet 1 \"a\"", "..symbol 1 1 \"T\"\n...unit 1\n....pin 0 0 \"x\" 1\n....pin 0 0 \"y\" 1\n...unit 2\n....pin 0 0 \"x\" 1\n....pin 1 0 \"x\" 1",
            "..symbol 1 1 \"T\"\n...unit 1\n....pin 0 0 \"x\" 1");
        netsAre(b, 0, 1, 0);
        Bench c = drawn(".sheet 1 \"a\"", "..symbol 1000 -1000 \"T\"\n...unit 1\n....pin 0 0 \"x\" 1\n....pin 0.000001 0 \"y\" 1\n....pin 0 -0.000001 \"y\" 1\n....pin -1 1 \"y\" 1");
        netsAre(c, 0, 1);
    }

    private static void repeats() {
        Bench b = drawn(".sheet 1 \"a\"", pins("0 0", "1 0"), "..wire 0 0 5 0", "..note 1 0 \"4\" 1", "..note 5 0 \"901\" 1",
            ".sheet 2 \"b\"", "..field \"of\" \"a\"", pins("7 7"), "..wire 0 0 9 9",
            ".sheet 3 \"c\"", "..field \"no\" \"a\"", "..field \"of\" \"b\"", "..field \"of\" \"a\"", pins("3 3"),
            ".sheet 4 \"d\"", "..field \"of\" \"a\"");
        // b and d repeat a; c repeats nothing, as b is not drawn, and its first field of counts alone
        Bench.due("nets()", b.mill.nets(), 2);
        for (int copy = 0; copy < 3; copy++) {
            Bench.due("netOf(0, " + copy + ")", b.mill.netOf(0, copy), 0);
            Bench.due("netOf(1, " + copy + ")", b.mill.netOf(1, copy), 0);
        }
        Bench.due("netOf(0, 3)", b.mill.netOf(0, 3), -1);
        Bench.due("netOf(2, 0)", b.mill.netOf(2, 0), 1);
        Bench.due("netOf(2, 1)", b.mill.netOf(2, 1), -1);
        Bench.due("netOf(3, 0)", b.mill.netOf(3, 0), -1);
        Bench.due("remark(0)", b.mill.remark(0), 901);
        Bench c = drawn(".sheet 1 \"a\"", pins("0 0", "1 0"), ".sheet 2 \"a\"", pins("0 0"), "..note 0 0 \"5\" 1",
            ".sheet 3 \"x\"", "..field \"of\" \"a\"", ".sheet 4 \"y\"", "..field \"of\" \"y\"", pins("1 1"));
        // the first one of that name; none behind it, nor itself; each copy is a net of its own
        Bench.due("netOf(0, 0)", c.mill.netOf(0, 0), 0);
        Bench.due("netOf(0, 1)", c.mill.netOf(0, 1), 1);
        Bench.due("netOf(1, 0)", c.mill.netOf(1, 0), 2);
        Bench.due("netOf(1, 1)", c.mill.netOf(1, 1), 3);
        Bench.due("netOf(2, 0)", c.mill.netOf(2, 0), 4);
        Bench.due("netOf(2, 1)", c.mill.netOf(2, 1), -1);
        Bench.due("netOf(3, 0)", c.mill.netOf(3, 0), 5);
        Bench.due("nameOf(1)", c.mill.nameOf(1), -1);
        Bench.due("nameOf(3)", c.mill.nameOf(3), -2);
        Bench.due("nameOf(4)", c.mill.nameOf(4), 5);
        // a field of a symbol in it is not the sheet's; a sheet in a repeat is drawn
        Bench d = drawn(".sheet 1 \"a\"", pins("0 0"), ".sheet 2 \"b\"", "..symbol 0 0 \"\"", "...field \"of\" \"a\"", pins("1 1"),
            ".sheet 3 \"c\"", "..field \"of\" \"a\"", "..sheet 4 \"d\"", "...symbol 0 0 \"\"", "....unit 1", ".....pin 0 0 \"\" 0");
        Bench.due("netOf(0, 1)", d.mill.netOf(0, 1), 1);
        Bench.due("netOf(1, 0)", d.mill.netOf(1, 0), 2);
        Bench.due("netOf(2, 0)", d.mill.netOf(2, 0), 3);
    }

    private static void ports() {
        Bench b = drawn(".sheet 1 \"amp\"", pins("0 0", "1 0"), "..note 0 0 \"^5\" 1", "..note 1 0 \"6\" 1",
            ".sheet 2 \"top\"", "..sheet 3 \"left\"", "...field \"of\" \"amp\"", "..sheet 4 \"right\"", "...field \"of\" \"amp\"",
            pins("5 5", "6 6"), "..note 5 5 \"5\" 1", "..note 6 6 \"6\" 1");
        Bench.due("netOf(0, 0)", b.mill.netOf(0, 0), 0);
        Bench.due("netOf(0, 1)", b.mill.netOf(0, 1), 1);
        Bench.due("netOf(0, 2)", b.mill.netOf(0, 2), 1);
        Bench.due("netOf(1, 0)", b.mill.netOf(1, 0), 2);
        Bench.due("netOf(1, 1)", b.mill.netOf(1, 1), 3);
        Bench.due("netOf(1, 2)", b.mill.netOf(1, 2), 4);
        Bench.due("netOf(2, 0)", b.mill.netOf(2, 0), 1);
        Bench.due("netOf(3, 0)", b.mill.netOf(3, 0), 5);
        // a port to the name on a parent that is a repeat
        Bench c = drawn(".sheet 1 \"a\"", pins("0 0"), "..note 0 0 \"3\" 1", ".sheet 2 \"b\"", "..field \"of\" \"a\"",
            "..sheet 3 \"in\"", "...symbol 0 0 \"\"", "....unit 1", ".....pin 9 9 \"\" 0", "...note 9 9 \"^3\" 1");
        Bench.due("netOf(0, 0)", c.mill.netOf(0, 0), 0);
        Bench.due("netOf(0, 1)", c.mill.netOf(0, 1), 1);
        Bench.due("netOf(1, 0)", c.mill.netOf(1, 0), 1);
        Bench.due("nameOf(1)", c.mill.nameOf(1), 3);
        // a port of a sheet in a drawn one
        Bench d = drawn(".sheet 1 \"a\"", "..sheet 2 \"in\"", "...symbol 0 0 \"\"", "....unit 1", ".....pin 9 9 \"\" 0", "...note 9 9 \"^12\" 1",
            pins("0 0"), "..note 0 0 \"12\" 1");
        netsAre(d, 0, 0);
    }

    private static void portsBeyondRoom() {
        StringBuilder text = new StringBuilder(".sheet 0 \"t\"\n..sheet 0 \"a\"\n");
        for (int n = 0; n < 31; n++) {
            text.append("...note ").append(n).append(" 0 \"^").append(n).append("\" 1\n");
        }
        text.append("...symbol 0 0 \"\"\n....unit 1\n.....pin 29 0 \"\" 0\n.....pin 30 0 \"\" 0\n");
        text.append("..symbol 0 0 \"\"\n...unit 1\n....pin 1 0 \"\" 0\n....pin 2 0 \"\" 0\n..note 1 0 \"29\" 1\n..note 2 0 \"30\" 1");
        Bench b = drawn(text.toString());
        // the 31st port has no room; its label is there
        netsAre(b, 0, 1, 0, 2);
        Bench.due("nameOf(1)", b.mill.nameOf(1), 30);
    }

    private static void remarks() {
        Bench b = drawn(".sheet 1 \"a\"", pins("0 0", "5 0"), "..note 0 0 \"9\" 1", "..note 0 0 \"3\" 1", "..note 0 0 \"905\" 1", "..note 0 0 \"9\" 1",
            "..note 5 0 \"8\" 1", "..note 5 0 \"2\" 1", "..note 7 7 \"1\" 1", "..note 7 7 \"77\" 1", "..wire 1 8 3 8", "..note 2 8 \"4\" 1",
            ".sheet 2 \"b\"", "..note 0 0 \"2\" 1");
        Bench.due("remarks", b.remarks().toString(),
            List.of(9, 905, 1008, 100000006, 100000007, 100000009).toString());
        Bench.due("remark(-1)", b.mill.remark(-1), -1);
        Bench.due("nameOf(0)", b.mill.nameOf(0), 3);
        Bench.due("nameOf(1)", b.mill.nameOf(1), 2);
        // a label that stands alone is one remark, however many copies it has
        Bench c = drawn(".sheet 1 \"a\"", "..note 0 0 \"9\" 1", ".sheet 2 \"b\"", "..field \"of\" \"a\"");
        Bench.due("remarks", c.remarks().toString(), List.of(100000000).toString());
    }

    private static void sheetsBeyondRoom() {
        StringBuilder text = new StringBuilder();
        for (int n = 0; n < 15; n++) {
            text.append(".sheet 0 \"").append(n).append("\"\n");
        }
        String sixteenth = ".sheet 0 \"x\"\n" + pins("0 0");
        String further = "\n.sheet 0 \"y\"\n" + pins("1 0") + "\n..sheet 0 \"z\"\n..field \"of\" \"x\"";
        Bench b = drawn(text + sixteenth + further);
        Bench.due("nets()", b.mill.nets(), 1);
        Bench.due("netOf(0, 0)", b.mill.netOf(0, 0), 0);
        Bench.due("netOf(0, 1)", b.mill.netOf(0, 1), -1);
        StringBuilder repeats = new StringBuilder(".sheet 0 \"x\"\n" + pins("0 0") + "\n..note 0 0 \"950\" 1");
        for (int n = 0; n < 16; n++) {
            repeats.append("\n.sheet 0 \"r\"\n..field \"of\" \"x\"");
        }
        Bench c = drawn(repeats.toString());
        Bench.due("nets()", c.mill.nets(), 1);
        Bench.due("netOf(0, 15)", c.mill.netOf(0, 15), 0);
        Bench.due("netOf(0, 16)", c.mill.netOf(0, 16), -1);
    }

    private static void rooms() {
        StringBuilder pins = new StringBuilder(".sheet 0 \"x\"\n..symbol 0 0 \"\"\n...unit 1");
        for (int n = 0; n < 61; n++) {
            pins.append("\n....pin ").append(n).append(" 0 \"\" 0");
        }
        Bench b = drawn(pins.toString());
        Bench.due("nets()", b.mill.nets(), 60);
        Bench.due("netOf(59, 0)", b.mill.netOf(59, 0), 59);
        Bench.due("netOf(60, 0)", b.mill.netOf(60, 0), -1);
        StringBuilder wires = new StringBuilder(".sheet 0 \"x\"\n" + pins("0 0", "0 1", "1 0", "1 1"));
        for (int n = 0; n < 99; n++) {
            wires.append("\n..wire 9 9 9 8");
        }
        Bench c = drawn(wires + "\n..wire 9 9 9 9\n..wire 0 0 0 1\n..wire 1 0 1 1");
        netsAre(c, 0, 0, 1, 2);
        StringBuilder labels = new StringBuilder(".sheet 0 \"x\"\n" + pins("0 0", "0 1", "1 0", "1 1"));
        for (int n = 0; n < 58; n++) {
            labels.append("\n..note 9 9 \"").append(n + 10).append("\" 1");
        }
        Bench d = drawn(labels + "\n..note 0 0 \"1\" 1\n..note 0 1 \"^1\" 1\n..note 1 0 \"1\" 1");
        netsAre(d, 0, 0, 1, 2);
        StringBuilder dots = new StringBuilder(".sheet 0 \"x\"\n" + pins("0 0", "0 1", "20 0", "20 1"));
        for (int n = 0; n < 49; n++) {
            dots.append("\n..note ").append(n).append(" 5 \"+\" 1\n..note ").append(n).append(" 5 \"+\" 1");
        }
        String cross = "\n..wire 0 0 4 8\n..wire 0 1 4 7\n..wire 20 0 24 8\n..wire 20 1 24 7";
        // the 50th junction is there, the 51st is not
        Bench e = drawn(dots + "\n..note 22 4 \"+\" 1\n..note 2 4 \"+\" 1" + cross);
        netsAre(e, 0, 1, 2, 2);
        Bench f = drawn(dots + "\n..note 22 4 \"x\" 1" + cross);
        netsAre(f, 0, 1, 2, 3);
    }

    private static void farPlaces() {
        Bench b = drawn(".sheet 0 \"x\"", pins("-1000 -999.999999", "1000 1000", "0 0", "0.000001 0.000001", "0 0.000001"),
            "..wire -1000 -1000 1000 1000");
        netsAre(b, 0, 1, 1, 1, 2);
        Bench c = drawn(".sheet 0 \"x\"", pins("-1000 1000", "1000 -999.999999", "999.999999 -999.999998", "-0.000001 0.5"),
            "..wire -1000 1000 1000 -999.999999");
        netsAre(c, 0, 0, 1, 2);
    }

    /** Sixty labels in sixteen copies, all at a terminal or all alone. */
    private static void fullSheets() {
        for (int alone = 0; alone < 2; alone++) {
            StringBuilder text = new StringBuilder(".sheet 0 \"x\"\n" + pins("0 0", "1 1"));
            for (int n = 0; n < 60; n++) {
                text.append("\n..note ").append(alone).append(" 0 \"").append(n).append("\" 1");
            }
            text.append(alone == 1 ? "\n..note 1 1 \"30\" 1" : "");
            for (int n = 0; n < 15; n++) {
                text.append("\n.sheet 0 \"r\"\n..field \"of\" \"x\"");
            }
            Bench b = drawn(text.toString());
            Bench.due("nets()", b.mill.nets(), 32);
            List<Integer> remarks = b.remarks();
            Bench.due("remarks", remarks.size(), alone == 1 ? 60 : 16 * 59);
            for (int k = 0; k < remarks.size(); k++) {
                int want = alone == 1 ? 100000000 + k : k / 59 * 1000 + k % 59 + 1;
                Bench.due("remark(" + k + ")", remarks.get(k), want);
            }
            Bench.due("nameOf(15)", b.mill.nameOf(15), alone == 1 ? -1 : 0);
            Bench.due("nameOf(16)", b.mill.nameOf(16), -2);
        }
    }

    private static void drawingStays() {
        Bench b = drawn(".sheet 0 \"x\"", pins("0 0"), "..note 0 0 \"4\" 1");
        b.sheets(1, "design 3\n.sheet");
        Bench.due("nets()", b.mill.nets(), 1);
        Bench.due("nameOf(0)", b.mill.nameOf(0), 4);
        b.sheets(1, "design 3\n.sheet 0 \"x\"\n");
        Bench.due("nets()", b.mill.nets(), 0);
        Bench.due("nameOf(0)", b.mill.nameOf(0), -1000);
        Bench.due("netOf(0, 0)", b.mill.netOf(0, 0), -1);
    }
}
