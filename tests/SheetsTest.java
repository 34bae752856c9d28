/** Promises 4 to 7: texts of sheets in both forms, their faults, the objects, and how they are written. */
public final class SheetsTest {
    private static final String ALL = "(design 3\n"
        + " (sheet 12 \"a\\\"b\\\\\"\n"
        + "  (symbol 1.5 -0.25 \"U1\"\n"
        + "   (unit 7\n"
        + "    (pin 0 -2 \"P\" 9)\n"
        + "    (arc 1 2 3 -360 360)\n"
        + "    (note 1 1 \"t\" 2))\n"
        + "   (field \"of\" \"x\"))\n"
        + "  (wire 0 0 0 1)\n"
        + "  (note -1000 1000 \"\" 0.000001)\n"
        + "  (sheet 0 \"\")\n"
        + "  (field \"\" \"\"))\n"
        + " (sheet 9999 \"last\"))\n";
    private static final String ALL_LINES = "design 3\n"
        + ".sheet 12 \"a\\\"b\\\\\"\n"
        + "..symbol 1.5 -0.25 \"U1\"\n"
        + "...unit 7\n"
        + "....pin 0 -2 \"P\" 9\n"
        + "....arc 1 2 3 -360 360\n"
        + "....note 1 1 \"t\" 2\n"
        + "...field \"of\" \"x\"\n"
        + "..wire 0 0 0 1\n"
        + "..note -1000 1000 \"\" 0.000001\n"
        + "..sheet 0 \"\"\n"
        + "..field \"\" \"\"\n"
        + ".sheet 9999 \"last\"\n";

    public static void main(String[] args) {
        objects();
        writtenTexts();
        versions();
        numbers();
        faultsOfLists();
        faultsOfLines();
        faultsOfNames();
        faultsOfValues();
        threeTexts();
        unknowns();
        unknownRoom();
        objectRoom();
        openRoom();
        rooms();
        Bench.finish("SheetsTest");
    }

    private static void reads(int form, String text, int want) {
        Bench b = new Bench();
        Bench.due("sheets(" + form + ") of " + shown(text), b.sheets(form, text), want);
        b.told(want < 0 ? 2 : 0);
    }

    private static String shown(String text) {
        return text.length() > 200 ? text.substring(0, 100) + " .. " + text.substring(text.length() - 60) : text;
    }

    /** A fault at the place of the first | of a text, which is left out of it. */
    private static void fault(int form, String marked) {
        int place = marked.indexOf('|');
        reads(form, marked.substring(0, place) + marked.substring(place + 1), -2 - place);
    }

    private static void faultAt(int form, String text, int place) {
        reads(form, text, -2 - place);
    }

    private static void objects() {
        int[] kinds = {0, 1, 2, 3, 4, 5, 6, 8, 7, 6, 1, 8, 1};
        for (int form = 0; form < 2; form++) {
            Bench b = new Bench();
            Bench.due("sheets", b.sheets(form, form == 0 ? ALL : ALL_LINES), 13);
            for (int k = 0; k < kinds.length; k++) {
                Bench.due("kind(" + k + ")", b.mill.kind(k), kinds[k]);
            }
            Bench.due("kind(13)", b.mill.kind(13), -1);
            Bench.due("kind(-1)", b.mill.kind(-1), -1);
            numbersAre(b, 0);
            numbersAre(b, 1, 12);
            numbersAre(b, 2, 1500000, -250000);
            numbersAre(b, 3, 7);
            numbersAre(b, 4, 0, -2000000, 9);
            numbersAre(b, 5, 1000000, 2000000, 3000000, -360, 360);
            numbersAre(b, 6, 1000000, 1000000, 2000000);
            numbersAre(b, 7);
            numbersAre(b, 8, 0, 0, 0, 1000000);
            numbersAre(b, 9, -1000000000, 1000000000, 1);
            numbersAre(b, 12, 9999);
            numbersAre(b, 13);
            Bench.due("number(1, -1)", b.mill.number(1, -1), 0);
            Bench.due("number(-1, 0)", b.mill.number(-1, 0), 0);
        }
    }

    private static void numbersAre(Bench b, int k, long... want) {
        for (int n = 0; n < 7; n++) {
            Bench.due("number(" + k + ", " + n + ")", b.mill.number(k, n), n < want.length ? want[n] : 0);
        }
    }

    private static void writtenTexts() {
        writes(0, ALL, ALL);
        writes(1, ALL_LINES, ALL_LINES);
        String loose = ALL.replace("\n", " \n \n").replace(")", " ) ").replace("(", "\n(  ");
        writes(0, loose, ALL);
        writes(0, "(design 3)", "(design 3)\n");
        writes(0, " \n(\n \ndesign\n3\n)\n ", "(design 3)\n");
        writes(0, "(design 3(sheet 1 \"a\"(sheet 2 \"b\")(sheet 3 \"c\")))",
            "(design 3\n (sheet 1 \"a\"\n  (sheet 2 \"b\")\n  (sheet 3 \"c\")))\n");
        writes(1, "design 1\n", "design 3\n");
        Bench b = new Bench();
        b.sheets(1, "design 1\n");
        Bench.due("written(-1)", b.mill.written(-1), -1);
        Bench.due("written(9)", b.mill.written(9), -1);
        Bench.due("a fault", b.sheets(0, "(design 3"), -11);
        Bench.due("written stays", b.written(), "design 3\n");
        Bench.due("the other form", b.sheets(0, "(design 2)"), 1);
        Bench.due("written in the form that was read", b.written(), "(design 3)\n");
    }

    private static void writes(int form, String text, String want) {
        Bench b = new Bench();
        Bench.due("sheets(" + form + ") of " + text, b.sheets(form, text) > 0, true);
        Bench.due("written of " + text, b.written(), want);
    }

    private static void versions() {
        String head = ".sheet 1 \"\"\n..symbol 0 0 \"\"\n...unit 1\n";
        String one = "design 1\n" + head + "....pin 0 0 \"A\"\n....note 0 0 \"n\"\n";
        String two = "design 2\n" + head + "....pin 0 0 \"A\" 3\n....note 0 0 \"n\"\n";
        String three = "design 3\n" + head + "....pin 0 0 \"A\" 3\n....note 0 0 \"n\" 4\n";
        writes(1, one, "design 3\n" + head + "....pin 0 0 \"A\" 0\n....note 0 0 \"n\" 1.27\n");
        writes(1, two, "design 3\n" + head + "....pin 0 0 \"A\" 3\n....note 0 0 \"n\" 1.27\n");
        writes(1, three, three);
        Bench b = new Bench();
        b.sheets(1, one);
        numbersAre(b, 4, 0, 0, 0);
        numbersAre(b, 5, 0, 0, 1270000);
        fault(1, "design 1\n" + head + "....pin 0 0 \"A\"| 3\n");
        fault(1, "design 2\n" + head + "....pin 0 0 \"A\"|\n");
        fault(1, "design 2\n" + head + "....note 0 0 \"n\"| 4\n");
        fault(1, "design 3\n" + head + "....note 0 0 \"n\"|\n");
        fault(0, "(design 1(sheet 1 \"\"(symbol 0 0 \"\"(unit 1(pin 0 0 \"\" |3");
    }

    private static void numbers() {
        String[] read = {"0", "-0", "0.000000", "0000", "1.10", "-0.5", "12.000001", "0100.100000", "999.999999",
            "-1000.000000", "1000.0", "-000.000001"};
        String[] wrote = {"0", "0", "0", "0", "1.1", "-0.5", "12.000001", "100.1", "999.999999", "-1000", "1000", "-0.000001"};
        for (int n = 0; n < read.length; n++) {
            writes(1, "design 3\n.sheet 1 \"\"\n..symbol " + read[n] + " 0 \"\"\n",
                "design 3\n.sheet 1 \"\"\n..symbol " + wrote[n] + " 0 \"\"\n");
        }
        writes(1, "design 0003\n.sheet -0 \"\"\n", "design 3\n.sheet 0 \"\"\n");
        writes(1, "design 3\n.sheet 0012 \"\"\n", "design 3\n.sheet 12 \"\"\n");
    }

    private static void faultsOfLists() {
        reads(0, "", -2);
        fault(0, " \n |");
        fault(0, " |x");
        fault(0, "|design 3\n");
        fault(0, "(|(");
        fault(0, "( \n|1");
        fault(0, "(|)");
        fault(0, "(|");
        fault(0, "(  |");
        fault(0, "(design|");
        fault(0, "(design|)");
        fault(0, "(design |)");
        fault(0, "(design|(");
        fault(0, "(design 3|");
        fault(0, "(design 3|x)");
        fault(0, "(design 3 |3)");
        fault(0, "(design 3)|)");
        fault(0, "(design 3) \n|(");
        fault(0, "(design 3) |x");
        fault(0, "(design 3 (sheet 1|\"a\"");
        fault(0, "(design 3 (sheet 1 \"a\"|1");
        fault(0, "(design 3 (sheet 1 \"a\"))|)");
        fault(0, "(design 3 (sheet 1 \"a\")|\"");
        fault(0, "(design 3 (sheet |\"a\"");
        fault(0, "(design 3 (sheet 1 |a");
    }

    private static void faultsOfLines() {
        reads(1, "", -2);
        fault(1, "|.design 3\n");
        fault(1, "|\n");
        fault(1, "| design 3\n");
        fault(1, "|(design 3)\n");
        fault(1, "design 3|");
        fault(1, "design 3| \n");
        fault(1, "design | 3\n");
        fault(1, "design|\n3");
        fault(1, "design 3\n.|");
        fault(1, "design 3\n|design 3\n");
        fault(1, "design 3\n|sheet 1 \"\"\n");
        fault(1, "design 3\n|\n");
        fault(1, "design 3\n| .sheet 1 \"\"\n");
        fault(1, "design 3\n.|.sheet 1 \"\"\n");
        fault(1, "design 3\n.|.....");
        fault(1, "design 3\n.| sheet 1 \"\"\n");
        fault(1, "design 3\n.|\n");
        fault(1, "design 3\n.sheet 1 \"\"\n..|.wire 0 0 0 0\n");
        fault(1, "design 3\n.sheet 1 \"\"\n.sheet 1 \"\"|");
        fault(1, "design 3\n.sheet 1 \"\"\n..wire 0 0 0 1\n...|wire 0 0 0 1\n");
        fault(1, "design 3\n.sheet 1 \"\"\n..wire 0 0 0 1\n...|.wire 0 0 0 1\n");
        fault(1, "design 3\n.sheet 1 \"\"\n..foo\n.sheet 1 \"\"\n..|.sheet 1 \"\"\n");
        reads(1, "design 3\n.sheet 1 \"\"\n..sheet 2 \"\"\n...sheet 3 \"\"\n..sheet 4 \"\"\n.sheet 5 \"\"\n", 6);
    }

    private static void mark(String text) {
        int place = text.indexOf('|');
        if (place >= 0) {
            fault(0, text);
        }
    }

    private static void faultsOfNames() {
        mark("(|desig");
        mark("(|designs");
        mark("(|sheet");
        mark("(|d");
        mark("(|foo 3");
        mark("( |Design");
        mark("(design|X 3)");
        mark("(design|3)");
        mark("(design 3 (|design 3");
        mark("(design 3 (|symbol 0 0 \"\")");
        mark("(design 3 (|unit");
        mark("(design 3 (|pinX");
        mark("(design 3 (shee|");
        mark("(design 3 (sheet|");
        mark("(design 3 (sheet|\"");
        mark("(design 3 (|Sheet");
        mark("(design 3 (sheet 1 \"\" (|unit 1)");
        mark("(design 3 (sheet 1 \"\" (|pin 1)");
        mark("(design 3 (sheet 1 \"\" (|arc 1)");
        mark("(design 3 (sheet 1 \"\" (symbol 0 0 \"\" (|wire 0 0 0 0)");
        mark("(design 3 (sheet 1 \"\" (symbol 0 0 \"\" (|note 0 0 0 0)");
        mark("(design 3 (sheet 1 \"\" (symbol 0 0 \"\" (|sheet 0 0 0 0)");
        mark("(design 3 (sheet 1 \"\" (symbol 0 0 \"\" (unit 1 (|field \"\" \"\")");
        mark("(design 3 (sheet 1 \"\" (symbol 0 0 \"\" (unit 1 (|unit 1)");
        mark("(design 3 (sheet 1 \"\" (wire 0 0 0 0 (|foo");
        mark("(design 3 (sheet 1 \"\" (wire 0 0 0 0 (|wire 0 0 0 0)");
        mark("(design 3 (sheet 1 \"\" (wire 0 0 0 0 ( |1");
        mark("(design 3 (sheet 1 \"\" (wire 0 0 0 0 (|");
        mark("(design 3 (sheet 1 \"\" (wire 0 0 0 |(");
        mark("(design 3 (|wire 0 0 0 0)");
        mark("(design 3 (|field \"\" \"\")");
        mark("(design 3 (|note 0 0 \"\" 1)");
        fault(1, "|desig");
        fault(1, "|foo\n");
        fault(1, "design 3\n.|design 3\n");
        fault(1, "design 3\n.|pin");
        fault(1, "design 3\n.shee|");
        fault(1, "design 3\n.sheet|");
        fault(1, "design 3\n.sheet|1");
        fault(1, "design 3\n.sheet 1 \"\"\n..note 0 0 \"\" 1\n...|foo\n");
    }

    private static void faultsOfValues() {
        String pin = "(design 3(sheet 1 \"\"(symbol 0 0 \"\"(unit 1(pin ";
        fault(0, "(design |4");
        fault(0, "(design |0)");
        fault(0, "(design |-1");
        fault(0, "(design |12 ");
        fault(0, "(design 0012|3");
        fault(0, "(design 9999|9");
        fault(0, "(design -|");
        fault(0, "(design -|x");
        fault(0, "(design --|1".replace("--|1", "-|-1"));
        fault(0, "(design 3|.0)");
        fault(0, "(design |4.0)");
        fault(0, "(design 3(sheet |-1 ");
        reads(0, "(design 3(sheet 9999 \"\"))", 2);
        fault(0, "(design 3(sheet 1 \"\"(symbol 0 0 \"\"(unit |0(");
        fault(0, pin + "|1000.000001 ");
        fault(0, pin + "|1001");
        fault(0, pin + "|-1000.1)");
        fault(0, pin + "1001.|");
        fault(0, pin + "1001.|x");
        fault(0, pin + "1000.000000|0");
        fault(0, pin + "9999.999999|9");
        fault(0, pin + "9999|9.1");
        fault(0, pin + "|9999x");
        fault(0, pin + "1|x");
        fault(0, pin + "|.5");
        fault(0, pin + "|+5");
        fault(0, pin + "0 0 \"\" |10)");
        fault(0, pin + "0 0 \"\" |-1)");
        fault(0, pin + "0 0 \"\" 9|.");
        String arc = pin.substring(0, pin.length() - 4) + "arc 0 0 0 ";
        fault(0, arc + "|361 ");
        fault(0, arc + "|-361 ");
        fault(0, arc + "-360 |361 ");
        String forty = "0123456789".repeat(4);
        reads(0, "(design 3(sheet 1 \"" + forty + "\"))", 2);
        fault(0, "(design 3(sheet 1 \"" + forty + "|x\"))");
        fault(0, "(design 3(sheet 1 \"" + forty + "|\\\"\"))");
        fault(0, "(design 3(sheet 1 \"" + forty + "|");
        reads(0, "(design 3(sheet 1 \"" + "\\\"\\\\".repeat(20) + "\"))", 2);
        fault(0, "(design 3(sheet 1 \"\\|n");
        fault(0, "(design 3(sheet 1 \"\\|\n");
        fault(0, "(design 3(sheet 1 \"\\|");
        fault(0, "(design 3(sheet 1 \"a|\nb");
        fault(0, "(design 3(sheet 1 \"a|");
        reads(0, "(design 3(sheet 1 \"()\"))", 2);
    }

    /** A text's objects have nothing of the texts before it. */
    private static void threeTexts() {
        Bench b = new Bench();
        for (int n = 0; n < 2; n++) {
            b.sheets(1, "design 3\n.sheet 1 \"\"\n..wire 1 2 3 4\n..wire 5 6 7 8\n..note 1 2 \"x\" 3\n..symbol 4 5 \"\"\n...unit 6\n....arc 1 2 3 4 5\n");
        }
        b.sheets(1, "design 1\n.sheet 1 \"\"\n..field \"a\" \"b\"\n..foo\n..symbol 0 0 \"\"\n...unit 1\n....pin 1 1 \"\"\n....note 1 1 \"\"\n");
        numbersAre(b, 2);
        numbersAre(b, 3);
        numbersAre(b, 4, 0, 0);
        numbersAre(b, 5, 1);
        numbersAre(b, 6, 1000000, 1000000, 0);
        numbersAre(b, 7, 1000000, 1000000, 1270000);
    }

    private static void unknowns() {
        String kept = "( foo1(x \"\\\"\\\\)\n(\" ) (()) )";
        writes(0, "(design 3" + kept + "  (b)(sheet 1 \"\"(c) ))", "(design 3\n " + kept + "\n (b)\n (sheet 1 \"\"\n  (c)))\n");
        Bench b = new Bench();
        Bench.due("objects", b.sheets(0, "(design 3 (foo (sheet 1 \"\")) (sheet 1 \"\" (symbol 0 0 \"\" (x) (unit 1 (y)))))"), 7);
        Bench.due("kind(1)", b.mill.kind(1), 9);
        Bench.due("kind(2)", b.mill.kind(2), 1);
        Bench.due("kind(4)", b.mill.kind(4), 9);
        Bench.due("kind(6)", b.mill.kind(6), 9);
        numbersAre(b, 1);
        fault(0, "(design 3 (foo|");
        fault(0, "(design 3 (foo \"|");
        fault(0, "(design 3 (foo \"\\|x");
        fault(0, "(design 3 (foo \"\\|\n");
        fault(0, "(design 3 (foo \"\\|");
        fault(0, "(design 3 (foo ()|");
        fault(0, "(design 3 (foo ())|");
        reads(0, "(design 3 (foo \\x.~))", 2);
        writes(1, "design 3\n.foo 1 \"\n..bar\n...\"\n.sheet 1 \"\"\n..b(\n...c\n..d\n",
            "design 3\n.foo 1 \"\n..bar\n...\"\n.sheet 1 \"\"\n..b(\n...c\n..d\n");
        Bench c = new Bench();
        Bench.due("objects", c.sheets(1, "design 3\n.foo\n..sheet 1 \"\"\n...\n.a7\n.sheet 1 \"\"\n"), 4);
        Bench.due("kind(1)", c.mill.kind(1), 9);
        Bench.due("kind(2)", c.mill.kind(2), 9);
        Bench.due("kind(3)", c.mill.kind(3), 1);
        fault(1, "design 3\n.foo|");
        fault(1, "design 3\n.foo x\n..|");
        reads(1, "design 3\n.foo x\n..a\n", 2);
        fault(1, "design 3\n.foo x\n|\n");
        fault(1, "design 3\n.foo x\n.|\n");
        fault(1, "design 3\n.foo x\n..\n|x");
    }

    private static void unknownRoom() {
        String x = "x".repeat(1990);
        // ( foo and x and ) are 5 and 1,990 characters
        String head = "(design 3(foo" + x + ")";
        reads(0, head + "(abc))", 3);
        fault(0, head + "(abcd|))");
        fault(0, head + "(abcd|");
        fault(0, head + "(abcd|e f");
        fault(0, head + "(abcd|efg");
        fault(0, head + "(ab(c|)))");
        fault(0, head + "(ab\"c|\"))");
        fault(0, head + "(ab\"\\|\"))");
        fault(0, head + "(ab |");
        String full = "(design 3(foo" + x + "abcde)";
        reads(0, full + ")", 2);
        fault(0, full + "|(a)");
        fault(0, full + "|(  a");
        fault(0, full + "(|");
        fault(0, full + "(|1");
        reads(0, full + "(sheet 1 \"\"))", 3);
        fault(0, full + "(sheet 1 \"\")(|pin 1");
        fault(0, full + "|(shee");
        fault(0, "(design 3(foo" + x + "abcdef|)");
        String lines = "design 3\n.foo" + x;
        reads(1, lines + "1234567\n", 2);
        fault(1, lines + "1234567|8\n");
        fault(1, lines + "1234567\n.|a\n");
        reads(1, lines + "123456\n.sheet 1 \"\"\n", 3);
        fault(1, lines + "1234567|\n..\n");
        fault(1, lines + "123456\n|..\n");
        fault(1, lines + "12345\n.|.\n");
        fault(1, lines + "1234\n..|\n..\n");
        reads(1, lines + "1234\n..\n", 2);
        fault(1, lines + "1234567\n.|a");
        fault(1, lines + "123456\n.a|b");
        fault(1, lines + "123456\n.a|");
        reads(1, lines + "123456\n.a\n", 3);
    }

    private static void objectRoom() {
        String full = "(design 3" + "(sheet 1 \"\")".repeat(199);
        reads(0, full + ")", 200);
        fault(0, full + "(|sheet 1 \"\"))");
        fault(0, full + "( |f");
        fault(0, full + "( |");
        fault(0, full + "( |1");
        fault(0, full + "(|pin");
        String lines = "design 3\n" + ".sheet 1 \"\"\n".repeat(199);
        reads(1, lines, 200);
        fault(1, lines + ".|sheet 1 \"\"\n");
        fault(1, lines + ".|foo\n");
        String crowded = "(design 3(foo" + "x".repeat(1995) + ")" + "(sheet 1 \"\")".repeat(100);
        fault(0, crowded + "|(a)");
        String most = "(design 3(foo" + "x".repeat(1603) + ")" + "(x)".repeat(130) + "(sheet 1 \"\")".repeat(67);
        // 5 and 1,603 and 390 characters are kept, and 199 objects there
        Bench.due("length", most.length() < 3900, true);
        fault(0, most + "(sheet 1 \"\")(|abcd))");
        fault(0, most + "(a|b)");
    }

    private static void openRoom() {
        String deep = "(design 3" + "(sheet 1 \"\"".repeat(99);
        reads(0, deep + ")".repeat(100), 100);
        fault(0, deep + "|(sheet 1 \"\"");
        fault(0, deep + "|(");
        fault(0, deep + ")(foo |(");
        reads(0, deep + ")(foo )" + ")".repeat(99), 101);
        fault(0, "(design 3(foo" + "(".repeat(98) + "|(");
        reads(0, "(design 3(foo" + "(".repeat(98) + ")".repeat(98) + "(\"((\")))", 2);
        StringBuilder lines = new StringBuilder("design 3\n");
        for (int d = 1; d <= 70; d++) {
            lines.append(".".repeat(d)).append("sheet 1 \"\"\n");
        }
        reads(1, lines.toString(), 71);
        Bench b = new Bench();
        b.sheets(1, lines.toString());
        Bench.due("deep lines written", b.written(), lines.toString());
        Bench c = new Bench();
        String packed = "(design 3" + "(sheet 1 \"\"".repeat(98) + "(a)".repeat(101) + ")".repeat(99);
        Bench.due("deep lists", c.sheets(0, packed), 200);
        StringBuilder want = new StringBuilder("(design 3");
        for (int d = 1; d < 99; d++) {
            want.append("\n").append(" ".repeat(d)).append("(sheet 1 \"\"");
        }
        want.append(("\n" + " ".repeat(99) + "(a)").repeat(101)).append(")".repeat(99)).append("\n");
        Bench.due("deep lists written", c.written(), want.toString());
    }

    private static void rooms() {
        Bench b = new Bench();
        Bench.due("no form", b.mill.sheets(2), -1);
        b.told(2);
        Bench.due("no form", b.mill.sheets(-1), -1);
        for (int n = 0; n < 3; n++) {
            Bench.due("good", b.sheets(0, "(design 3)"), 1);
        }
        for (int n = 0; n < 20; n++) {
            Bench.due("bad", b.sheets(0, "x"), -2);
        }
        Bench.due("the 24th", b.sheets(1, "y"), -2);
        b.feed("(design 3)");
        Bench.due("the 25th", b.mill.sheets(0), -1);
        b.told(1);
        Bench.due("no form is ahead of full", b.mill.sheets(7), -1);
        b.told(2);
        Bench.due("the tape stays", b.mill.end(10), true);
        Bench c = new Bench();
        for (int n = 0; n < 4; n++) {
            Bench.due("good", c.sheets(1, "design 3\n"), 1);
        }
        c.feed("(");
        Bench.due("the fifth good one, or not", c.mill.sheets(0), -1);
        c.told(1);
        Bench.due("the tape stays", c.mill.end(1), true);
        Bench.due("objects stay", c.written(), "design 3\n");
    }
}
