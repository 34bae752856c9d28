import java.util.*;

/** Promises 30 to 35 by chance: scripts, and scripts that were spoiled, are read and run by a plain machine, and by the mill. */
public final class ScriptChanceTest {
    private static final Random random = new Random(23);
    private static final int[] ends = new int[3];
    private static final int[] errors = new int[7];
    private static int bad = 0;

    public static void main(String[] args) {
        for (int n = 0; n < 12000; n++) {
            oneMill();
        }
        System.out.println(bad + " faults, runs ended " + Arrays.toString(ends) + ", errors " + Arrays.toString(errors));
        Bench.finish("ScriptChanceTest");
    }

    private static void oneMill() {
        Bench b = new Bench();
        Machine m = new Machine();
        List<Statement> script = List.of();
        Map<Character, List<Statement>> functions = Map.of();
        for (int n = 0; n < 4; n++) {
            String text = new Writer().text();
            if (random.nextInt(3) == 0) {
                text = spoiled(text);
            }
            if (text.length() > 400) {
                continue;
            }
            Parser p = new Parser(text);
            int want;
            try {
                List<Statement> read = p.block(0, (char) 0);
                script = read;
                functions = p.functions;
                want = p.count;
                m.forget();
            } catch (Fault f) {
                want = -2 - f.place;
                bad++;
            }
            Bench.due("program " + text, b.program(text), want);
            compare(b, m, "after program " + text);
            for (int runs = random.nextInt(3); runs > 0; runs--) {
                int steps = random.nextInt(3) == 0 ? 1 + random.nextInt(20) : 300;
                int end = m.run(script, functions, steps);
                ends[end]++;
                errors[m.kind]++;
                Bench.due("run(" + steps + ") of " + text, b.mill.run(steps), end);
                compare(b, m, "run(" + steps + ") of " + text);
            }
        }
    }

    private static void compare(Bench b, Machine m, String context) {
        for (int i = 0; i <= 40; i++) {
            long want = i < m.outputs.size() && i < 40 ? (int) (long) m.outputs.get(i) : 1L << 40;
            Bench.due("output(" + i + ") " + context, b.mill.output(i), want);
        }
        Bench.due("error(0) " + context, b.mill.error(0), m.kind);
        Bench.due("error(1) " + context, b.mill.error(1), m.place);
        Bench.due("error(2) " + context, b.mill.error(2), m.value);
        for (int k = 0; k <= 8; k++) {
            Bench.due("demand(" + k + ") " + context, b.mill.demand(k), m.ask(k));
        }
    }

    private static String spoiled(String text) {
        StringBuilder s = new StringBuilder(text);
        String signs = "a;z=1290+-*/%<(){}[]@:'#!?~^&|AB\n x";
        for (int n = 1 + random.nextInt(2); n > 0; n--) {
            int at = random.nextInt(s.length() + 1);
            int what = random.nextInt(3);
            if (what != 0 && at < s.length()) {
                s.deleteCharAt(at);
            }
            if (what != 1) {
                s.insert(at, signs.charAt(random.nextInt(signs.length())));
            }
        }
        return s.toString();
    }

    // ---- the plain machine ----

    private static final class Fault extends RuntimeException {
        final int place;

        Fault(int place) {
            this.place = place;
        }
    }

    private static final class Raised extends RuntimeException {
        final int kind;

        Raised(int kind) {
            this.kind = kind;
        }
    }

    private static final class Ended extends RuntimeException {
        final int kind;
        final int place;
        final int value;

        Ended(int kind, int place, int value) {
            this.kind = kind;
            this.place = place;
            this.value = value;
        }
    }

    private static final class Stopped extends RuntimeException {
    }

    private interface Value {
        long of(Machine m);
    }

    private static final class Statement {
        char sign;
        int place;
        char name;
        Value target;
        int field;
        Value value;
        List<Statement> first;
        List<Statement> second;
    }

    private static final class Parser {
        final String text;
        int at = 0;
        int count = 0;
        final Map<Character, List<Statement>> functions = new HashMap<>();
        final Set<Character> told = new HashSet<>();

        Parser(String text) {
            this.text = text;
        }

        char now() {
            return at < text.length() ? text.charAt(at) : 0;
        }

        char take(String signs) {
            char c = now();
            if (c == 0 || signs.indexOf(c) < 0) {
                throw new Fault(at);
            }
            at++;
            return c;
        }

        List<Statement> block(int depth, char end) {
            List<Statement> all = new ArrayList<>();
            while (true) {
                while (now() == '\n') {
                    at++;
                }
                if (end == 0 ? at == text.length() : now() == end) {
                    return all;
                }
                all.add(statement(depth));
            }
        }

        List<Statement> braces(int depth, char open, char close) {
            if (now() != open || depth == 2) {
                throw new Fault(at);
            }
            at++;
            List<Statement> all = block(depth + 1, close);
            take("" + close);
            return all;
        }

        Statement statement(int depth) {
            Statement s = new Statement();
            s.place = at;
            s.sign = now();
            if (count == 100) {
                throw new Fault(at);
            }
            count++;
            if (s.sign == '[') {
                s.first = braces(depth, '[', ']');
                return s;
            }
            at++;
            if (s.sign >= 'a' && s.sign <= 'z') {
                s.name = s.sign;
                s.sign = 'a';
                take("=");
                s.value = expression(0);
            } else if (s.sign >= 'A' && s.sign <= 'Z') {
                s.name = s.sign;
                s.sign = 'A';
            } else if (s.sign == '@') {
                s.target = atom(0);
                take(":");
                s.field = take("012345") - '0';
                take("=");
                s.value = expression(0);
            } else if (s.sign == '\'') {
                s.target = atom(0);
                take("=");
                s.value = expression(0);
            } else if (s.sign != 0 && "!^+&|<".indexOf(s.sign) >= 0) {
                s.value = expression(0);
            } else if (s.sign == '?' || s.sign == '*') {
                s.value = expression(0);
                s.first = braces(depth, '{', '}');
                if (s.sign == '?' && now() == '{') {
                    s.second = braces(depth, '{', '}');
                }
                return s;
            } else if (s.sign == '~') {
                s.first = braces(depth, '{', '}');
                s.second = braces(depth, '{', '}');
                return s;
            } else if (s.sign == ':') {
                s.name = take("ABCDEFGHIJKLMNOPQRSTUVWXYZ");
                if (depth > 0 || !told.add(s.name)) {
                    throw new Fault(s.place);
                }
                functions.put(s.name, braces(depth, '{', '}'));
                return s;
            } else {
                throw new Fault(s.place);
            }
            take(";");
            return s;
        }

        Value expression(int depth) {
            Value a = sum(depth);
            if (now() == '<' || now() == '=') {
                boolean less = take("<=") == '<';
                Value b = sum(depth);
                return m -> {
                    long x = a.of(m);
                    long y = b.of(m);
                    return (less ? x < y : x == y) ? 1 : 0;
                };
            }
            return a;
        }

        Value sum(int depth) {
            Value a = product(depth);
            while (now() == '+' || now() == '-') {
                boolean plus = take("+-") == '+';
                Value x = a;
                Value y = product(depth);
                a = m -> plus ? x.of(m) + y.of(m) : x.of(m) - y.of(m);
            }
            return a;
        }

        Value product(int depth) {
            Value a = atom(depth);
            while (now() == '*' || now() == '/' || now() == '%') {
                char sign = take("*/%");
                Value x = a;
                Value y = atom(depth);
                a = m -> {
                    long p = x.of(m);
                    long q = y.of(m);
                    if (sign != '*' && q == 0) {
                        throw new Raised(1);
                    }
                    return sign == '*' ? p * q : sign == '/' ? p / q : p % q;
                };
            }
            return a;
        }

        Value atom(int depth) {
            char c = now();
            if (Character.isDigit(c)) {
                int from = at;
                while (Character.isDigit(now()) && at - from < 4) {
                    at++;
                }
                long n = Long.parseLong(text.substring(from, at));
                return m -> n;
            }
            if (c >= 'a' && c <= 'z') {
                at++;
                return m -> m.variables[c - 'a'];
            }
            if (c == '#') {
                at++;
                return m -> m.facts.size();
            }
            if (c == 0 || "-(@'".indexOf(c) < 0 || depth == 3) {
                throw new Fault(at);
            }
            at++;
            if (c == '(') {
                Value e = expression(depth + 1);
                take(")");
                return e;
            }
            Value a = atom(depth + 1);
            if (c == '-') {
                return m -> -a.of(m);
            }
            if (c == '\'') {
                return m -> m.list.get(m.place(a.of(m)));
            }
            take(":");
            int field = take("012345") - '0';
            return m -> m.facts.get(m.fact(a.of(m)))[field];
        }
    }

    private static final class Machine {
        final long[] variables = new long[26];
        List<long[]> facts = new ArrayList<>();
        List<Long> list = new ArrayList<>();
        final List<Long> outputs = new ArrayList<>();
        final List<Value> demands = new ArrayList<>();
        Map<Character, List<Statement>> functions = Map.of();
        int steps;
        int calls;
        int kind;
        int place = -1;
        int value;

        int fact(long n) {
            if (n < 0 || n >= facts.size()) {
                throw new Raised(2);
            }
            return (int) n;
        }

        int place(long n) {
            if (n < 0 || n >= list.size()) {
                throw new Raised(2);
            }
            return (int) n;
        }

        void forget() {
            outputs.clear();
            demands.clear();
            kind = 0;
            place = -1;
            value = 0;
        }

        int run(List<Statement> script, Map<Character, List<Statement>> told, int most) {
            forget();
            Arrays.fill(variables, 0);
            functions = told;
            steps = most;
            calls = 0;
            try {
                block(script);
                return 0;
            } catch (Ended e) {
                kind = e.kind;
                place = e.place;
                value = e.value;
                return 1;
            } catch (Stopped e) {
                return 2;
            }
        }

        int ask(int k) {
            if (k >= demands.size() || k >= 8) {
                return -1;
            }
            try {
                return demands.get(k).of(this) != 0 ? 1 : 0;
            } catch (Raised r) {
                return -2;
            }
        }

        void step() {
            if (steps == 0) {
                throw new Stopped();
            }
            steps--;
        }

        void block(List<Statement> all) {
            for (Statement s : all) {
                try {
                    one(s);
                } catch (Raised r) {
                    throw new Ended(r.kind, s.place, 0);
                }
            }
        }

        void one(Statement s) {
            if (s.sign == ':') {
                return;
            }
            if (s.sign != '*') {
                step();
            }
            switch (s.sign) {
                case 'a' -> variables[s.name - 'a'] = s.value.of(this);
                case '@' -> {
                    int f = fact(s.target.of(this));
                    facts.get(f)[s.field] = s.value.of(this);
                }
                case '\'' -> {
                    int p = place(s.target.of(this));
                    list.set(p, s.value.of(this));
                }
                case '!' -> outputs.add(s.value.of(this));
                case '^' -> throw new Ended(4, s.place, (int) s.value.of(this));
                case '+' -> {
                    long e = s.value.of(this);
                    if (facts.size() == 12) {
                        throw new Raised(3);
                    }
                    facts.add(new long[] {e, 0, 0, 0, 0, 0});
                }
                case '&' -> demands.add(s.value);
                case '|' -> {
                    long z = variables[25];
                    for (int f = 0; f < facts.size(); f++) {
                        variables[25] = f;
                        s.value.of(this);
                    }
                    variables[25] = z;
                }
                case '<' -> {
                    long n = s.value.of(this);
                    if (n < 0 || n > 20) {
                        throw new Raised(3);
                    }
                    list = new ArrayList<>(Collections.nCopies((int) n, 0L));
                }
                case '?' -> {
                    if (s.value.of(this) != 0) {
                        block(s.first);
                    } else if (s.second != null) {
                        block(s.second);
                    }
                }
                case '*' -> {
                    step();
                    while (s.value.of(this) != 0) {
                        block(s.first);
                        step();
                    }
                }
                case '[' -> {
                    List<long[]> before = new ArrayList<>();
                    facts.forEach(f -> before.add(f.clone()));
                    try {
                        block(s.first);
                    } catch (Ended e) {
                        facts = before;
                        throw e;
                    }
                }
                case '~' -> {
                    try {
                        block(s.first);
                    } catch (Ended e) {
                        block(s.second);
                        throw e;
                    }
                    block(s.second);
                }
                default -> {
                    if (!functions.containsKey(s.name)) {
                        throw new Raised(6);
                    }
                    if (calls == 2) {
                        throw new Raised(5);
                    }
                    calls++;
                    try {
                        block(functions.get(s.name));
                    } finally {
                        calls--;
                    }
                }
            }
        }
    }

    // ---- scripts by chance ----

    private static final class Writer {
        final StringBuilder all = new StringBuilder();
        final String names = "abiz";

        String text() {
            lines();
            statements(0, 1 + random.nextInt(9));
            return all.toString();
        }

        void lines() {
            while (random.nextInt(8) == 0) {
                all.append('\n');
            }
        }

        void statements(int depth, int count) {
            for (int n = 0; n < count; n++) {
                statement(depth);
                lines();
            }
        }

        void block(int depth, char open, char close) {
            all.append(open);
            lines();
            statements(depth + 1, random.nextInt(4));
            all.append(close);
        }

        char variable() {
            return names.charAt(random.nextInt(names.length()));
        }

        void statement(int depth) {
            int most = depth >= 2 ? 11 : depth == 0 ? 17 : 16;
            switch (random.nextInt(most)) {
                case 0, 1 -> {
                    all.append(variable()).append('=');
                    expression(0);
                    all.append(';');
                }
                case 2 -> {
                    all.append('@');
                    atom(0);
                    all.append(':').append(random.nextInt(6)).append('=');
                    expression(0);
                    all.append(';');
                }
                case 3 -> {
                    all.append('\'');
                    atom(0);
                    all.append('=');
                    expression(0);
                    all.append(';');
                }
                case 4, 5 -> plain('!');
                case 6 -> plain('^');
                case 7 -> plain('+');
                case 8 -> plain('&');
                case 9 -> plain('|');
                case 10 -> {
                    if (random.nextInt(2) == 0) {
                        all.append('<').append(random.nextInt(23)).append(';');
                    } else {
                        all.append((char) ('A' + random.nextInt(3))).append(';');
                    }
                }
                case 11 -> {
                    all.append('?');
                    expression(0);
                    block(depth, '{', '}');
                    if (random.nextBoolean()) {
                        block(depth, '{', '}');
                    }
                }
                case 12 -> {
                    char v = variable();
                    all.append('*').append(v).append('<').append(random.nextInt(5)).append('{');
                    statements(depth + 1, random.nextInt(3));
                    all.append(v).append('=').append(v).append("+1;}");
                }
                case 13 -> block(depth, '[', ']');
                case 14 -> {
                    all.append('~');
                    block(depth, '{', '}');
                    block(depth, '{', '}');
                }
                case 15 -> all.append((char) ('A' + random.nextInt(3))).append(';');
                default -> {
                    all.append(':').append((char) ('A' + random.nextInt(3)));
                    block(depth, '{', '}');
                }
            }
        }

        void plain(char sign) {
            all.append(sign);
            expression(0);
            all.append(';');
        }

        void expression(int depth) {
            sum(depth);
            if (random.nextInt(5) == 0) {
                all.append(random.nextBoolean() ? '<' : '=');
                sum(depth);
            }
        }

        void sum(int depth) {
            atom(depth);
            while (random.nextInt(4) == 0) {
                all.append("+-*/%".charAt(random.nextInt(5)));
                atom(depth);
            }
        }

        void atom(int depth) {
            switch (random.nextInt(depth == 3 ? 5 : 10)) {
                case 0, 1 -> all.append(random.nextInt(4));
                case 2 -> all.append(random.nextInt(4) == 0 ? random.nextInt(10000) : random.nextInt(20));
                case 3 -> all.append(variable());
                case 4 -> all.append(random.nextBoolean() ? '#' : 'z');
                case 5, 6 -> {
                    all.append('(');
                    expression(depth + 1);
                    all.append(')');
                }
                case 7 -> {
                    all.append('-');
                    atom(depth + 1);
                }
                case 8 -> {
                    all.append('@');
                    atom(depth + 1);
                    all.append(':').append(random.nextInt(6));
                }
                default -> {
                    all.append('\'');
                    atom(depth + 1);
                }
            }
        }
    }
}
