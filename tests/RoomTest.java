import java.lang.reflect.*;
import java.util.*;

/** No call throws, whatever its arguments; the same calls give the same answers; and an object keeps to its room. */
public final class RoomTest {
    private static final int OBJECTS = 2000;
    private static final int ELEMENTS = 400000;
    private static final int[] ODD = {Integer.MIN_VALUE, -1000000, -2, -1, 0, 1, 2, 3, 4, 5, 6, 7, 8, 9, 12, 15, 16, 40, 59, 60,
        63, 64, 100, 255, 256, 400, 512, 1000, 4000, 65536, 100000, Integer.MAX_VALUE - 1, Integer.MAX_VALUE};
    private static final List<Method> METHODS = new ArrayList<>();

    public static void main(String[] args) throws Exception {
        for (Method m : BoardMill.class.getDeclaredMethods()) {
            if (Modifier.isPublic(m.getModifiers())) {
                METHODS.add(m);
            }
        }
        METHODS.sort(Comparator.comparing(Method::getName));
        Bench.due("methods", METHODS.size(), 49);
        for (int seed = 0; seed < 400; seed++) {
            oneObject(seed);
        }
        room();
        Bench.finish("RoomTest");
    }

    private static void oneObject(int seed) throws Exception {
        Random random = new Random(seed);
        List<Bench> twins = List.of(new Bench(), new Bench());
        for (int call = 0; call < 512; call++) {
            if (call % 40 == 5 && random.nextInt(3) > 0) {
                feed(twins, random);
                continue;
            }
            Method m = METHODS.get(random.nextInt(METHODS.size()));
            Object[] arguments = new Object[m.getParameterCount()];
            for (int n = 0; n < arguments.length; n++) {
                int small = random.nextInt(5);
                int value = small > 1 ? random.nextInt(4) : small == 1 ? random.nextInt(16) : ODD[random.nextInt(ODD.length)];
                arguments[n] = m.getParameterTypes()[n] == long.class ? (Object) (long) value : (Object) value;
            }
            Object[] answers = new Object[2];
            for (int n = 0; n < 2; n++) {
                try {
                    answers[n] = m.invoke(twins.get(n).mill, arguments) + "/" + twins.get(n).mill.told();
                } catch (InvocationTargetException e) {
                    answers[n] = n + " throws " + e.getCause();
                }
            }
            Bench.due(m.getName() + Arrays.toString(arguments) + " of " + seed, (String) answers[0], (String) answers[1]);
        }
    }

    private static void feed(List<Bench> twins, Random random) {
        String[] sheets = {"design 3\n.sheet 0 \"a\"\n..symbol 0 0 \"\"\n...unit 1\n....pin 0 0 \"\" 0\n....pin 1 0 \"\" 0\n....pin 2 0 \"\" 0\n"
            + "....pin 3 0 \"\" 0\n..wire 0 0 1 0\n..wire 2 0 3 0\n..note 0 0 \"5\" 1\n.sheet 0 \"b\"\n..field \"of\" \"a\"\n",
            "(design 3 (sheet 0 \"a\" (foo (bar))))", "(design 3", "design 1\n.x\n..y\n"};
        String[] scripts = {"+1;+2;<3;&@0:0;*i<3{!i;i=i+1;}[^3;]", "a=9999;!a*a/(a-a);", "~{F;}{|z;}:F{!#;}", "!1"};
        boolean sheet = random.nextBoolean();
        String text = sheet ? sheets[random.nextInt(sheets.length)] : scripts[random.nextInt(scripts.length)];
        int form = random.nextInt(2);
        for (Bench b : twins) {
            b.mill.end(0);
            b.feed(text);
            if (sheet) {
                b.mill.sheets(form);
                b.mill.board(4, 4, 2, 1);
            } else {
                b.mill.program();
            }
        }
    }

    /** What an object holds, all of which is made with it: a call makes nothing (LanguageTest looks for that). */
    private static void room() throws Exception {
        Map<Object, Boolean> seen = new IdentityHashMap<>();
        long[] counts = new long[2];
        count(new BoardMill(), seen, counts);
        System.out.println(counts[0] + " objects, " + counts[1] + " fields and elements");
        Bench.due("objects", counts[0] < OBJECTS, true);
        Bench.due("elements", counts[1] < ELEMENTS, true);
    }

    private static void count(Object o, Map<Object, Boolean> seen, long[] counts) throws Exception {
        if (o == null || seen.put(o, true) != null) {
            return;
        }
        counts[0]++;
        if (o.getClass().isArray()) {
            counts[1] += Array.getLength(o);
            return;
        }
        for (Field f : o.getClass().getDeclaredFields()) {
            if (!Modifier.isStatic(f.getModifiers())) {
                counts[1]++;
                f.setAccessible(true);
                if (!f.getType().isPrimitive()) {
                    count(f.get(o), seen, counts);
                }
            }
        }
    }
}
