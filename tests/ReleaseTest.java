import java.io.ByteArrayOutputStream;
import java.nio.charset.StandardCharsets;
import java.security.MessageDigest;
import java.util.*;

/** Promises 43 to 49: releases, approvals, serial numbers, roots, proofs and checks. */
public final class ReleaseTest {
    public static void main(String[] args) throws Exception {
        withoutCut();
        due();
        rooms();
        approvals();
        serials();
        for (int holes = 0; holes <= 12; holes++) {
            Bench b = stacked(holes);
            Bench.due("cut", b.mill.cut(), 5 * holes);
            tree(b, holes);
        }
        Bench b = rows();
        Bench.due("cut", b.mill.cut(), 4 + 2 + 3 * 16);
        tree(b, 16);
        checks();
        sameTexts();
        Bench.finish("ReleaseTest");
    }

    private static void answers(Bench b, String call, long got, long want, int told) {
        Bench.due(call, got, want);
        b.told(told);
    }

    private static void withoutCut() {
        Bench b = new Bench();
        answers(b, "release", b.mill.release(), -1, 3);
        b.sheets(0, "(design 3)");
        b.mill.board(1, 1, 1, 0);
        answers(b, "release", b.mill.release(), -1, 3);
        b.mill.cut();
        answers(b, "release", b.mill.release(), 0, 0);
        Bench.due("root", b.mill.root(0, 0) >= 0, true);
        Bench.due("root", b.mill.root(0, 32), -1);
        Bench.due("root", b.mill.root(0, -1), -1);
        Bench.due("root", b.mill.root(1, 0), -1);
        Bench.due("root", b.mill.root(-1, 0), -1);
        Bench.due("proof", b.mill.proof(0, 0, 0), 0);
        Bench.due("proof", b.mill.proof(0, 0, 1), -1);
        Bench.due("proof", b.mill.proof(0, 0, -1), -1);
        Bench.due("proof", b.mill.proof(0, 1, 0), -1);
        Bench.due("proof", b.mill.proof(0, -1, 0), -1);
        Bench.due("proof", b.mill.proof(1, 0, 0), -1);
        Bench.due("proof", b.mill.proof(-1, 0, 0), -1);
    }

    private static void due() {
        Bench b = Sixty.drawn(12);
        b.mill.board(3, 3, 1, 0);
        b.mill.put(0, 0, 0, 0, 0);
        b.mill.put(12, 0, 0, 2, 0);
        b.mill.cut();
        answers(b, "a cut with an airline", b.mill.release(), -1, 5);
        b.mill.route(1);
        answers(b, "the cut before", b.mill.release(), -1, 5);
        b.mill.rule(1, -1, -1, 201);
        b.mill.cut();
        answers(b, "a violation", b.mill.release(), -1, 5);
        b.mill.rule(1, -1, -1, 0);
        b.mill.cut();
        answers(b, "an exact cut", b.mill.release(), 0, 0);
        b.program("&a;a=1;");
        answers(b, "a script without a run", b.mill.release(), 1, 0);
        b.mill.run(1);
        answers(b, "a demand that is 0", b.mill.release(), -1, 5);
        b.mill.run(2);
        answers(b, "a demand that is 1", b.mill.release(), 2, 0);
        b.program("&1;&1/0;");
        answers(b, "a new script", b.mill.release(), 3, 0);
        b.mill.run(1);
        answers(b, "one demand yet", b.mill.release(), 4, 0);
        b.mill.run(2);
        answers(b, "a demand with an error", b.mill.release(), -1, 5);
        b.program("&@11:0;");
        b.mill.run(1);
        answers(b, "a demand on facts that are not there", b.mill.release(), -1, 5);
        b.mill.facts();
        answers(b, "facts as they are now", b.mill.release(), 5, 0);
    }

    private static void rooms() {
        Bench b = new Bench();
        b.sheets(0, "(design 3)");
        b.mill.board(1, 1, 1, 0);
        b.mill.cut();
        for (int n = 0; n < 10; n++) {
            answers(b, "release", b.mill.release(), n, 0);
        }
        answers(b, "the 11th", b.mill.release(), -1, 1);
        b.program("&0;");
        b.mill.run(1);
        answers(b, "full is ahead of not due", b.mill.release(), -1, 1);
    }

    private static Bench released() {
        Bench b = new Bench();
        b.sheets(0, "(design 3)");
        b.mill.board(1, 1, 1, 0);
        b.mill.cut();
        b.mill.release();
        b.mill.release();
        return b;
    }

    private static void approvals() {
        Bench b = released();
        int[][] wrong = {{2, 0, 0}, {-1, 0, 0}, {0, 16, 0}, {0, -1, 0}, {0, 0, 4}, {0, 0, -1}};
        for (int[] w : wrong) {
            answers(b, "approve", b.mill.approve(w[0], w[1], w[2]), -1, 2);
        }
        answers(b, "one", b.mill.approve(0, 15, 3), 0, 0);
        answers(b, "the same one in another role", b.mill.approve(0, 15, 2), 0, 0);
        answers(b, "another one in the same role", b.mill.approve(0, 0, 2), 0, 0);
        answers(b, "another release", b.mill.approve(1, 1, 1), 0, 0);
        answers(b, "a third one in another role", b.mill.approve(0, 7, 0), 1, 0);
        answers(b, "who takes the role of the others", b.mill.approve(0, 7, 2), 0, 0);
        answers(b, "back", b.mill.approve(0, 7, 3), 1, 0);
        answers(b, "withdraw", b.mill.withdraw(0) ? 1 : 0, 1, 0);
        answers(b, "withdraw", b.mill.withdraw(0) ? 1 : 0, 0, 4);
        answers(b, "withdraw", b.mill.withdraw(2) ? 1 : 0, 0, 2);
        answers(b, "withdraw", b.mill.withdraw(-1) ? 1 : 0, 0, 2);
        answers(b, "approve what is withdrawn", b.mill.approve(0, 3, 0), 1, 0);
        Bench.due("a check of what is withdrawn", b.mill.check(0, 0, -1, 0), 1);
        Bench.due("the root of what is withdrawn", b.mill.root(0, 0) >= 0, true);
    }

    private static void serials() {
        Bench b = released();
        answers(b, "serial(2)", b.mill.serial(2), -1, 2);
        answers(b, "serial(-1)", b.mill.serial(-1), -1, 2);
        answers(b, "not approved", b.mill.serial(0), -1, 5);
        b.mill.approve(0, 0, 0);
        answers(b, "not by two", b.mill.serial(0), -1, 5);
        b.mill.approve(0, 1, 0);
        answers(b, "not with unlike roles", b.mill.serial(0), -1, 5);
        b.mill.approve(0, 1, 1);
        b.mill.approve(1, 5, 2);
        b.mill.approve(1, 6, 3);
        for (int n = 0; n < 59; n++) {
            answers(b, "serial", b.mill.serial(n % 2), n, 0);
        }
        b.mill.approve(1, 6, 2);
        answers(b, "no more approved", b.mill.serial(1), -1, 5);
        b.mill.approve(1, 6, 3);
        b.mill.withdraw(1);
        answers(b, "withdrawn", b.mill.serial(1), -1, 5);
        answers(b, "the 60th", b.mill.serial(0), 59, 0);
        answers(b, "the 61st", b.mill.serial(0), -1, 1);
        answers(b, "full is ahead of not due", b.mill.serial(1), -1, 1);
        answers(b, "none such is ahead of full", b.mill.serial(2), -1, 2);
    }

    private static byte[] digest(byte[]... parts) throws Exception {
        MessageDigest d = MessageDigest.getInstance("SHA-256");
        for (byte[] p : parts) {
            d.update(p);
        }
        return d.digest();
    }

    /** A mill with an exact cut of up to twelve holes, made of pads above one another. */
    private static Bench stacked(int holes) {
        Bench b = Sixty.drawn(12);
        b.mill.board(16, 16, 2, 0);
        for (int n = 0; n < holes; n++) {
            b.mill.put(n, 0, 0, 15 - n % 3, 15 - n / 3);
            b.mill.put(12 + n, 0, 1, 15 - n % 3, 15 - n / 3);
        }
        b.mill.route(5);
        return b;
    }

    /** Two rows of a net above one another: sixteen holes, and four leaves. */
    private static Bench rows() {
        Bench b = Sixty.drawn(12);
        b.mill.board(16, 16, 2, 0);
        b.mill.cost(0, 50, 50, 0);
        int[][] places = {{0, 0, 15}, {0, 15, 15}, {1, 0, 15}, {1, 15, 15}};
        for (int n = 0; n < 4; n++) {
            b.mill.put(12 * n, 0, places[n][0], places[n][1], places[n][2]);
        }
        b.mill.cost(1, 0, 0, 0);
        b.mill.route(1);
        return b;
    }

    private static void tree(Bench b, int holes) throws Exception {
        Bench.due("exact", b.mill.exact(), true);
        b.mill.release();
        int release = b.mill.release();
        byte[] text = b.drill(0).getBytes(StandardCharsets.ISO_8859_1);
        List<byte[]> files = new ArrayList<>();
        for (int at = 0; at < text.length; at += 64) {
            files.add(Arrays.copyOfRange(text, at, Math.min(text.length, at + 64)));
        }
        List<byte[]> row = new ArrayList<>();
        for (int n = 0; n < files.size(); n++) {
            row.add(digest(new byte[] {0, 0, (byte) n}, files.get(n)));
        }
        List<List<byte[]>> rows = new ArrayList<>(List.of(row));
        while (row.size() > 1) {
            List<byte[]> above = new ArrayList<>();
            for (int n = 0; n < row.size(); n += 2) {
                above.add(n + 1 < row.size() ? digest(new byte[] {1}, row.get(n), row.get(n + 1)) : row.get(n));
            }
            row = above;
            rows.add(row);
        }
        for (int i = 0; i < 32; i++) {
            Bench.due("root of " + holes, b.mill.root(release, i), row.get(0)[i] & 255);
        }
        for (int leaf = 0; leaf < files.size(); leaf++) {
            ByteArrayOutputStream proof = new ByteArrayOutputStream();
            int steps = 0;
            int k = leaf;
            for (List<byte[]> r : rows) {
                int other = k ^ 1;
                if (other < r.size()) {
                    steps++;
                    proof.write(other < k ? 0 : 1);
                    proof.write(r.get(other));
                }
                k /= 2;
            }
            byte[] bytes = proof.toByteArray();
            Bench.due("steps", b.mill.proof(release, leaf, 0), steps);
            for (int i = 0; i < bytes.length; i++) {
                Bench.due("proof", b.mill.proof(release, leaf, i + 1), bytes[i] & 255);
            }
            Bench.due("proof behind", b.mill.proof(release, leaf, bytes.length + 1), -1);
            Bench.due("check", b.mill.check(release, leaf, -1, 0), 1);
            int length = 4 + files.get(leaf).length + 1 + bytes.length;
            for (int place = 0; place < length; place++) {
                for (int mask : new int[] {1, 0x80, 255, 256 + 4}) {
                    // byte 0: another release that is there, of the same text
                    boolean other = place == 0 && mask == 1;
                    Bench.due("check with byte " + place, b.mill.check(release, leaf, place, mask), other ? 1 : 0);
                }
                Bench.due("check as it is", b.mill.check(release, leaf, place, 256), 1);
            }
            Bench.due("check behind", b.mill.check(release, leaf, length, 0), -1);
        }
        Bench.due("proof of no leaf", b.mill.proof(release, files.size(), 0), -1);
        Bench.due("check of no leaf", b.mill.check(release, files.size(), -1, 0), -1);
    }

    private static void checks() {
        Bench b = released();
        Bench.due("check", b.mill.check(0, 0, -1, 77), 1);
        Bench.due("check", b.mill.check(0, 0, -2, 0), -1);
        Bench.due("check", b.mill.check(0, 0, Integer.MAX_VALUE, 0), -1);
        Bench.due("check", b.mill.check(0, 0, Integer.MIN_VALUE, 0), -1);
        Bench.due("check", b.mill.check(2, 0, -1, 0), -1);
        Bench.due("check", b.mill.check(-1, 0, -1, 0), -1);
        Bench.due("check", b.mill.check(0, -1, -1, 0), -1);
        Bench.due("check", b.mill.check(0, 1, -1, 0), -1);
        Bench.due("check", b.mill.check(0, 0, 0, 2), 0);
        Bench.due("check", b.mill.check(0, 0, 0, -256), 1);
        Bench.due("check", b.mill.check(0, 0, 3, -1), 0);
        b.told(0);
    }

    private static void sameTexts() {
        Bench b = stacked(1);
        b.mill.cut();
        b.mill.release();
        b.mill.board(1, 1, 1, 0);
        b.mill.cut();
        b.mill.release();
        Bench.due("the other release's text is another one", b.mill.check(0, 0, 0, 1), 0);
        Bench.due("and the other way", b.mill.check(1, 0, 0, 1), 0);
        // a release keeps its cut's text
        Bench.due("check", b.mill.check(0, 0, -1, 0), 1);
    }
}
