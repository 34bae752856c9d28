import java.util.ArrayList;
import java.util.List;

/** What the tests of the project share: a mill to call, texts to feed it, and answers to compare. */
final class Bench {
    private static int wrong = 0;
    private static int asked = 0;

    BoardMill mill = new BoardMill();

    static void due(String call, long got, long want) {
        asked++;
        if (got != want) {
            wrong++;
            if (wrong <= 60) {
                System.out.println(call + " answered " + got + ", due is " + want);
            }
        }
    }

    static void due(String call, boolean got, boolean want) {
        due(call, got ? 1 : 0, want ? 1 : 0);
    }

    static void due(String call, String got, String want) {
        asked++;
        if (!got.equals(want)) {
            wrong++;
            System.out.println(call + " answered\n" + got + "\ndue is\n" + want);
        }
    }

    /** Ends a test: with exit code 1 when an answer was not as due. */
    static void finish(String name) {
        System.out.println(name + ": " + asked + " answers, " + wrong + " not as due");
        if (wrong != 0 || asked == 0) {
            System.exit(1);
        }
    }

    Bench told(int want) {
        due("told()", mill.told(), want);
        return this;
    }

    /** Feeds the characters of a text, and cuts the tape behind them; it takes fed(text) calls and one. */
    Bench feed(String text) {
        int[] words = words(text);
        for (int n = 0; n < words.length; n += 5) {
            due("feed()", mill.feed(words[n], words[n + 1], words[n + 2], words[n + 3], words[n + 4]), true);
        }
        due("end(" + text.length() + ")", mill.end(text.length()), true);
        return this;
    }

    private static int[] words(String text) {
        int[] words = new int[(text.length() + 19) / 20 * 5];
        for (int i = 0; i < text.length(); i++) {
            words[i / 4] |= (text.charAt(i) & 255) << 24 - i % 4 * 8;
        }
        return words;
    }

    int sheets(int form, String text) {
        feed(text);
        return mill.sheets(form);
    }

    int program(String text) {
        feed(text);
        return mill.program();
    }

    String written() {
        StringBuilder all = new StringBuilder();
        for (int i = 0; mill.written(i) != BoardMill.NONE; i++) {
            all.append((char) mill.written(i));
        }
        return all.toString();
    }

    String drill(int l) {
        StringBuilder all = new StringBuilder();
        for (int i = 0; mill.drill(l, i) != BoardMill.NONE; i++) {
            all.append((char) mill.drill(l, i));
        }
        return all.toString();
    }

    List<Integer> remarks() {
        List<Integer> all = new ArrayList<>();
        for (int k = 0; mill.remark(k) != BoardMill.NONE; k++) {
            all.add(mill.remark(k));
        }
        return all;
    }
}

/** A sheet of sixty terminals of so many nets, terminal t of net t modulo them. */
final class Sixty {
    static Bench drawn(int nets) {
        Bench b = new Bench();
        Bench.due("sheets", b.sheets(1, sheet(nets)), 124);
        Bench.due("nets()", b.mill.nets(), nets);
        return b;
    }

    private static String sheet(int nets) {
        StringBuilder text = new StringBuilder("design 3\n.sheet 0 \"\"\n..symbol 0 0 \"\"\n...unit 1\n");
        for (int t = 0; t < 60; t++) {
            text.append("....pin ").append(t).append(" 0 \"\" 0\n");
        }
        for (int t = 0; t < 60; t++) {
            text.append("..note ").append(t).append(" 0 \"").append(t % nets).append("\" 1\n");
        }
        return text.toString();
    }
}
