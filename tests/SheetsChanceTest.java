import java.util.*;

/** Promises 4 to 7 by chance: texts, and texts that were spoiled, are read by a plain reader, and by the mill. */
public final class SheetsChanceTest {
    private static final Random random = new Random(3);
    private static int good = 0;
    private static int bad = 0;

    public static void main(String[] args) {
        for (int n = 0; n < 30000; n++) {
            int form = random.nextInt(2);
            String text = new Writer(form).text();
            one(form, text);
            one(form, spoiled(text));
            one(form, text.substring(0, random.nextInt(text.length() + 1)));
        }
        System.out.println(good + " good texts, " + bad + " with a fault");
        Bench.finish("SheetsChanceTest");
    }

    private static String spoiled(String text) {
        StringBuilder s = new StringBuilder(text);
        String signs = "()\"\\ \n.-0129az@designpinsheetfoo";
        for (int n = 1 + random.nextInt(2); n > 0; n--) {
            int at = random.nextInt(s.length() + 1);
            int what = random.nextInt(3);
            if (what != 0 && at < s.length()) {
                s.deleteCharAt(at);
            }
            if (what != 1) {
                s.insert(at, signs.charAt(random.nextInt(signs.length())));
            }
        }
        return s.toString();
    }

    private static void one(int form, String text) {
        if (text.length() > 4000) {
            return;
        }
        Reader reader = new Reader(form, text);
        int want;
        try {
            reader.read();
            want = reader.objects.size();
            good++;
        } catch (Fault f) {
            want = -2 - f.place;
            bad++;
        }
        Bench b = new Bench();
        int got = b.sheets(form, text);
        if (got != want) {
            Bench.due("sheets(" + form + ") of\n" + text + "\n", got, want);
            return;
        }
        Bench.due("sheets", got, want);
        for (int k = 0; k < reader.objects.size() && want > 0; k++) {
            Thing t = reader.objects.get(k);
            Bench.due("kind", b.mill.kind(k), t.kind);
            for (int n = 0; n <= t.numbers.size(); n++) {
                Bench.due("number", b.mill.number(k, n), n < t.numbers.size() ? t.numbers.get(n) : 0);
            }
        }
        if (want > 0) {
            Bench.due("written", b.written(), written(form, reader.objects));
        }
    }

    // ---- the plain reader ----

    private static final class Fault extends RuntimeException {
        final int place;

        Fault(int place) {
            this.place = place;
        }
    }

    private static final class Thing {
        int kind;
        Thing parent;
        int depth;
        List<Long> numbers = new ArrayList<>();
        List<String> values = new ArrayList<>();
        String kept;
    }

    private static final String[] NAMES = {"design", "sheet", "symbol", "unit", "pin", "arc", "note", "wire", "field"};
    private static final String[] FIELDS = {"v", "pT", "NNT", "u", "NNTk", "NNNaa", "NNTN", "NNNN", "TT"};
    private static final String[] PARENTS = {"", "01", "1", "2", "3", "3", "13", "1", "12", "0123"};

    private static final class Reader {
        final int form;
        final String text;
        int at = 0;
        int version = 0;
        int kept = 0;
        int open = 0;
        final List<Thing> objects = new ArrayList<>();

        Reader(int form, String text) {
            this.form = form;
            this.text = text;
        }

        char now() {
            return at < text.length() ? text.charAt(at) : 0;
        }

        void read() {
            if (form == 0) {
                blanks();
                if (now() != '(') {
                    throw new Fault(at);
                }
                list(null);
                blanks();
                if (at < text.length()) {
                    throw new Fault(at);
                }
            } else {
                lines();
            }
        }

        void blanks() {
            while (now() == ' ' || now() == '\n') {
                at++;
            }
        }

        Thing name(Thing parent, int depth) {
            int from = at;
            while (now() >= 'a' && now() <= 'z') {
                at++;
            }
            if (at == from) {
                throw new Fault(at);
            }
            int kind = Arrays.asList(NAMES).indexOf(text.substring(from, at));
            kind = kind < 0 ? 9 : kind;
            boolean fits = parent == null ? kind == 0 : PARENTS[kind].indexOf('0' + parent.kind) >= 0;
            if (!fits || objects.size() == 200) {
                throw new Fault(from);
            }
            Thing t = new Thing();
            t.kind = kind;
            t.parent = parent;
            t.depth = depth;
            objects.add(t);
            return t;
        }

        void list(Thing parent) {
            int from = at;
            if (open == 100) {
                throw new Fault(at);
            }
            open++;
            at++;
            blanks();
            Thing t = name(parent, parent == null ? 0 : parent.depth + 1);
            if (t.kind == 9) {
                int end = at;
                for (at = from; at < end; at++) {
                    keep();
                }
                int inside = 1;
                while (inside > 0) {
                    char c = now();
                    take();
                    if (c == '(') {
                        if (open == 100) {
                            throw new Fault(at - 1);
                        }
                        open++;
                        inside++;
                    } else if (c == ')') {
                        open--;
                        inside--;
                    } else if (c == '"') {
                        quoted();
                    }
                }
                t.kept = text.substring(from, at);
                return;
            }
            values(t);
            blanks();
            while (now() == '(') {
                list(t);
                blanks();
            }
            if (now() != ')') {
                throw new Fault(at);
            }
            at++;
            open--;
        }

        void keep() {
            kept++;
            if (kept > 2000) {
                throw new Fault(at);
            }
        }

        void take() {
            if (at >= text.length()) {
                throw new Fault(at);
            }
            keep();
            at++;
        }

        void quoted() {
            while (now() != '"') {
                char c = now();
                take();
                if (c == '\\') {
                    if (now() != '"' && now() != '\\') {
                        throw new Fault(at);
                    }
                    take();
                }
            }
            take();
        }

        void values(Thing t) {
            String fields = FIELDS[t.kind];
            if ((t.kind == 4 && version < 2) || (t.kind == 6 && version < 3)) {
                fields = fields.substring(0, 3);
            }
            for (char f : fields.toCharArray()) {
                if (form == 1) {
                    if (now() != ' ') {
                        throw new Fault(at);
                    }
                    at++;
                } else {
                    if (now() != ' ' && now() != '\n') {
                        throw new Fault(at);
                    }
                    blanks();
                }
                value(t, f);
            }
            if (fields.length() < FIELDS[t.kind].length()) {
                t.numbers.add(t.kind == 4 ? 0L : 1270000L);
                t.values.add(t.kind == 4 ? "0" : "1.27");
            }
        }

        void value(Thing t, char f) {
            int from = at;
            if (f == 'T') {
                string(t);
                return;
            }
            if (now() == '-') {
                at++;
            }
            digits(4);
            if (f == 'N' && now() == '.') {
                at++;
                digits(6);
            }
            String s = text.substring(from, at);
            java.math.BigDecimal d = new java.math.BigDecimal(s);
            long n = f == 'N' ? d.movePointRight(6).longValueExact() : d.longValueExact();
            long[] bounds = f == 'N' ? new long[] {-1000000000, 1000000000} : f == 'v' ? new long[] {1, 3}
                : f == 'p' ? new long[] {0, 9999} : f == 'u' ? new long[] {1, 9999} : f == 'k' ? new long[] {0, 9} : new long[] {-360, 360};
            if (n < bounds[0] || n > bounds[1]) {
                throw new Fault(from);
            }
            if (f == 'v') {
                version = (int) n;
                t.values.add("3");
            } else {
                t.numbers.add(n);
                t.values.add(n == 0 ? "0" : d.stripTrailingZeros().toPlainString());
            }
        }

        void digits(int most) {
            int from = at;
            while (now() >= '0' && now() <= '9') {
                if (at - from == most) {
                    throw new Fault(at);
                }
                at++;
            }
            if (at == from) {
                throw new Fault(at);
            }
        }

        void string(Thing t) {
            if (now() != '"') {
                throw new Fault(at);
            }
            int from = at;
            at++;
            int count = 0;
            while (now() != '"') {
                if (now() < 32 || count == 40) {
                    throw new Fault(at);
                }
                if (now() == '\\') {
                    at++;
                    if (now() != '"' && now() != '\\') {
                        throw new Fault(at);
                    }
                }
                at++;
                count++;
            }
            at++;
            t.values.add(text.substring(from, at));
        }

        void lines() {
            Thing last = null;
            do {
                int dots = 0;
                while (now() == '.') {
                    if (dots == (last == null ? 0 : last.depth + 1)) {
                        throw new Fault(at);
                    }
                    dots++;
                    at++;
                }
                if (last != null && dots == 0) {
                    throw new Fault(at);
                }
                Thing parent = last;
                while (parent != null && parent.depth >= dots) {
                    parent = parent.parent;
                }
                int from = at;
                Thing t = name(parent, dots);
                if (t.kind == 9) {
                    int end = at;
                    for (at = from; at < end; at++) {
                        keep();
                    }
                    while (at >= text.length() || text.charAt(at) != '\n' || text.startsWith(".".repeat(dots + 1), at + 1)) {
                        take();
                    }
                    t.kept = text.substring(from, at);
                } else {
                    values(t);
                    last = t;
                }
                if (now() != '\n') {
                    throw new Fault(at);
                }
                at++;
            } while (at < text.length());
        }
    }

    private static String written(int form, List<Thing> objects) {
        StringBuilder all = new StringBuilder();
        if (form == 1) {
            for (Thing t : objects) {
                all.append(".".repeat(t.depth)).append(t.kind == 9 ? t.kept : head(t)).append('\n');
            }
            return all.toString();
        }
        return list(objects.get(0), objects) + "\n";
    }

    private static String head(Thing t) {
        return NAMES[t.kind] + " " + String.join(" ", t.values);
    }

    private static String list(Thing t, List<Thing> objects) {
        if (t.kind == 9) {
            return t.kept;
        }
        StringBuilder all = new StringBuilder("(" + head(t));
        for (Thing child : objects) {
            if (child.parent == t) {
                all.append('\n').append(" ".repeat(child.depth)).append(list(child, objects));
            }
        }
        return all.append(')').toString();
    }

    // ---- texts by chance ----

    private static final class Writer {
        final int form;
        final int version = 1 + random.nextInt(3);
        final StringBuilder all = new StringBuilder();
        int left = random.nextInt(25);

        Writer(int form) {
            this.form = form;
        }

        String text() {
            if (form == 0) {
                gap(0);
            }
            object(0, 0);
            if (form == 0) {
                gap(0);
            }
            return all.toString();
        }

        void gap(int least) {
            int n = form == 1 ? least : least + (random.nextInt(4) == 0 ? random.nextInt(3) : 0);
            for (int k = 0; k < n; k++) {
                all.append(form == 0 && random.nextInt(3) == 0 ? '\n' : ' ');
            }
        }

        void object(int kind, int depth) {
            if (form == 0) {
                all.append('(');
                gap(0);
            } else {
                all.append(".".repeat(depth));
            }
            if (kind == 9) {
                unknown(depth);
                return;
            }
            all.append(NAMES[kind]);
            String fields = FIELDS[kind];
            if ((kind == 4 && version < 2) || (kind == 6 && version < 3)) {
                fields = fields.substring(0, 3);
            }
            for (char f : fields.toCharArray()) {
                gap(1);
                value(f);
            }
            if (form == 1) {
                all.append('\n');
            }
            for (int n = random.nextInt(7); n > 0 && left > 0 && kind < 4; n--) {
                List<Integer> kinds = new ArrayList<>();
                for (int k = 1; k <= 9; k++) {
                    if (PARENTS[k].indexOf('0' + kind) >= 0) {
                        kinds.add(k);
                    }
                }
                left--;
                gap(0);
                object(kinds.get(random.nextInt(kinds.size())), depth + 1);
            }
            if (form == 0) {
                gap(0);
                all.append(')');
            }
        }

        void unknown(int depth) {
            String[] inside = {"", " x", "1\"a(\"", " (b)(c (d))", "\"\\\"\\\\\n\"", ".Z~", "z".repeat(random.nextInt(900))};
            String[] more = {"", "\n.", "\n.x(\"", "\n..", "\n.sheet 1 \"\""};
            all.append("foobar", 0, 1 + random.nextInt(6));
            String in = inside[random.nextInt(inside.length)];
            if (form == 0) {
                all.append(in).append(')');
            } else {
                all.append(in.replace("\n", ""));
                for (int n = random.nextInt(3); n > 0; n--) {
                    String line = more[random.nextInt(more.length)];
                    all.append(line.isEmpty() ? "" : "\n" + ".".repeat(depth) + line.substring(1));
                }
                all.append('\n');
            }
        }

        void value(char f) {
            String[] lengths = {"0", "-0", "1.5", "-2.540000", "0012.1", "999.999999", "1000", "-1000.000000", "0.000001", "7", "1000.000001", "9999"};
            String[] texts = {"", "a", "of", "+", "12", "^7", "\\\"q\\\\", "long".repeat(10), "(", ")", "x\\\\".repeat(20)};
            switch (f) {
                case 'v' -> all.append(version);
                case 'T' -> all.append('"').append(texts[random.nextInt(texts.length)]).append('"');
                case 'N' -> all.append(lengths[random.nextInt(random.nextInt(10) == 0 ? lengths.length : lengths.length - 2)]);
                case 'p' -> all.append(random.nextInt(10000));
                case 'u' -> all.append(1 + random.nextInt(9999));
                case 'k' -> all.append(random.nextInt(10));
                default -> all.append(random.nextInt(721) - 360);
            }
        }
    }
}
