import java.math.BigInteger;

/** NUMBERS and promises 23 to 25: every operation at the edges of every KIND, on the bench and in a task. */
final class EdgesOfNumbersTest {
    private static final String[] KINDS = {"byte", "short", "word", "int", "long"};
    private static final int[] BITS = {8, 16, 16, 32, 64};
    private static final int WORD = 2;
    private static final int LONG = 4;
    private static final String[] SIGNS = {"+", "-", "*", "/", "%", "&", "|", "^", "<<", ">>", ">>>"};
    private static final int DIVIDE = 3;
    private static final int MODULO = 4;
    private static final int FIRST_SHIFT = 8;
    private static final String[] TOLD = {"a == b", "a != b", "a < b", "a <= b", "a > b", "a >= b", "min(a, b)", "max(a, b)",
        "rol(a, b)", "ror(a, b)", "abs(a)", "rev(a)", "ones(a)", "lead(a)", "-a", "~a", "!a"};
    private static final long[] EDGES = {Long.MIN_VALUE, Long.MIN_VALUE + 1, Integer.MIN_VALUE - 1L, Integer.MIN_VALUE, -65536,
        -32769, -32768, -129, -128, -33, -1, 0, 1, 2, 5, 31, 32, 33, 63, 64, 65, 127, 128, 255, 256, 32767, 32768, 65535, 65536,
        Integer.MAX_VALUE, Integer.MAX_VALUE + 1L, 1L << 32, Long.MAX_VALUE - 1, Long.MAX_VALUE};
    private static final int CALLS = 500;

    private static SoftController bench = new SoftController();
    private static int calls;

    public static void main(String[] args) {
        cuts();
        works();
        tells();
        statements();
        operators();
        functions();
        Checks.close("EdgesOfNumbersTest");
    }

    /** An object is used for 512 calls at most. */
    private static SoftController bench() {
        calls++;
        if (calls > CALLS) {
            bench = new SoftController();
            calls = 1;
        }
        return bench;
    }

    private static BigInteger big(long v) {
        return BigInteger.valueOf(v);
    }

    private static long wrapped(BigInteger v, int bits, boolean signed) {
        BigInteger all = BigInteger.ONE.shiftLeft(bits);
        BigInteger low = v.mod(all);
        return signed && low.testBit(bits - 1) ? low.subtract(all).longValueExact() : low.longValueExact();
    }

    private static long cut(int kind, long v) {
        return wrapped(big(v), BITS[kind], kind != WORD);
    }

    private static int bitsOf(boolean wide) {
        return wide ? 64 : 32;
    }

    /** a op b, WORKED; both have been CUT. */
    private static long worked(int op, int kind, int right, long a, long b) {
        boolean wide = kind == LONG || op < FIRST_SHIFT && right == LONG;
        int bits = bitsOf(wide);
        int by = big(b).mod(big(bits)).intValue();
        BigInteger left = big(a);
        BigInteger[] all = {left.add(big(b)), left.subtract(big(b)), left.multiply(big(b)), b == 0 ? null : left.divide(big(b)),
            b == 0 ? null : left.remainder(big(b)), left.and(big(b)), left.or(big(b)), left.xor(big(b)), left.shiftLeft(by),
            left.shiftRight(by), left.mod(BigInteger.ONE.shiftLeft(bits)).shiftRight(by)};
        return wrapped(all[op], bits, true);
    }

    private static long told(int op, int kind, int right, long a, long b) {
        int bits = bitsOf(kind == LONG);
        BigInteger pattern = big(a).mod(BigInteger.ONE.shiftLeft(bits));
        int by = big(op == 8 ? b : -b).mod(big(bits)).intValue();
        BigInteger turned = pattern.shiftLeft(by).or(pattern.shiftRight(bits - by));
        BigInteger mirrored = BigInteger.ZERO;
        for (int i = 0; i < bits; i++) {
            mirrored = pattern.testBit(i) ? mirrored.setBit(bits - 1 - i) : mirrored;
        }
        int compared = Long.compare(a, b);
        switch (op) {
            case 0: return compared == 0 ? 1 : 0;
            case 1: return compared != 0 ? 1 : 0;
            case 2: return compared < 0 ? 1 : 0;
            case 3: return compared <= 0 ? 1 : 0;
            case 4: return compared > 0 ? 1 : 0;
            case 5: return compared >= 0 ? 1 : 0;
            case 6: return compared < 0 ? a : b;
            case 7: return compared < 0 ? b : a;
            case 8: case 9: return wrapped(turned, bits, true);
            case 10: return wrapped(big(a).abs(), bits, true);
            case 11: return wrapped(mirrored, bits, true);
            case 12: return pattern.bitCount();
            case 13: return bits - pattern.bitLength();
            case 14: return wrapped(big(a).negate(), bits, true);
            case 15: return wrapped(big(a).not(), bits, true);
            default: return a == 0 ? 1 : 0;
        }
    }

    private static void cuts() {
        for (int kind = 0; kind < 5; kind++) {
            for (long v : EDGES) {
                Checks.same("cut(" + kind + ", " + v + ")", bench().cut(kind, v), cut(kind, v));
            }
        }
    }

    private static void works() {
        for (int op = 0; op < 11; op++) {
            for (int kinds = 0; kinds < 25; kinds++) {
                for (long a : EDGES) {
                    for (long b : EDGES) {
                        oneWork(op, kinds / 5, kinds % 5, a, b);
                    }
                }
            }
        }
    }

    private static void oneWork(int op, int kind, int right, long a, long b) {
        String what = "work(" + op + ", " + kind + ", " + right + ", " + a + ", " + b + ")";
        long by = cut(right, b);
        if (by == 0 && (op == DIVIDE || op == MODULO)) {
            Checks.refused(what, ArithmeticException.class, () -> bench().work(op, kind, right, a, b));
        } else {
            Checks.same(what, bench().work(op, kind, right, a, b), cut(kind, worked(op, kind, right, cut(kind, a), by)));
        }
    }

    private static void tells() {
        for (int op = 0; op < 17; op++) {
            for (int kinds = 0; kinds < 25; kinds++) {
                for (long a : EDGES) {
                    for (long b : EDGES) {
                        int kind = kinds / 5;
                        int right = kinds % 5;
                        Checks.same("tell(" + op + ", " + kind + ", " + right + ", " + a + ", " + b + ")",
                                bench().tell(op, kind, right, a, b), told(op, kind, right, cut(kind, a), cut(right, b)));
                    }
                }
            }
        }
    }

    /** Numbers at and about the edges of a KIND. */
    private static long[] edgesOf(int kind) {
        long least = kind == WORD ? 0 : -1L << BITS[kind] - 1;
        long most = kind == WORD ? 65535 : ~least;
        return new long[] {least, least + 1, kind == WORD ? 2 : -1, 0, 1, 33, most - 1, most};
    }

    /** a op= b, as a Stat does it, is what the bench tells; / and % by 0 leave the number and stop the task. */
    private static void statements() {
        for (int op = 0; op < 11; op++) {
            for (int kinds = 0; kinds < 25; kinds++) {
                int kind = kinds / 5;
                int right = kinds % 5;
                SoftController c = Checks.with("var " + KINDS[kind] + " a; var " + KINDS[right] + " b; task t every 1 { a "
                        + SIGNS[op] + "= b; }");
                for (long a : edgesOf(kind)) {
                    for (long b : edgesOf(right)) {
                        c.poke(0, 0, a);
                        c.poke(1, 0, b);
                        c.scan(1);
                        boolean stops = b == 0 && (op == DIVIDE || op == MODULO);
                        String what = KINDS[kind] + " " + a + " " + SIGNS[op] + "= " + KINDS[right] + " " + b;
                        Checks.same(what, c.value(0, 0), stops ? a : cut(kind, worked(op, kind, right, a, b)));
                        Checks.same(what + " STOPPED", c.clear(0), stops);
                    }
                }
            }
        }
    }

    /** What an E comes to for all edges of two KINDS; due tells that. */
    private static void worked(String e, int op, int kind, int right, boolean tells) {
        SoftController c = Checks.with("var " + KINDS[kind] + " a; var " + KINDS[right] + " b; var long r; task t every 1 { r = " + e + "; }");
        for (long a : edgesOf(kind)) {
            for (long b : edgesOf(right)) {
                c.poke(0, 0, a);
                c.poke(1, 0, b);
                c.scan(1);
                if (!c.clear(0)) {
                    long due = tells ? told(op, kind, right, a, b) : worked(op, kind, right, a, b);
                    Checks.same(e + " of " + KINDS[kind] + " " + a + ", " + KINDS[right] + " " + b, c.value(2, 0), due);
                } else {
                    Checks.same(e + " STOPPED by " + b, b == 0 && (op == DIVIDE || op == MODULO) && !tells, true);
                }
            }
        }
    }

    private static void operators() {
        for (int op = 0; op < 11; op++) {
            for (int kinds = 0; kinds < 25; kinds++) {
                worked("a " + SIGNS[op] + " b", op, kinds / 5, kinds % 5, false);
            }
        }
    }

    private static void functions() {
        for (int op = 0; op < 17; op++) {
            for (int kinds = 0; kinds < 25; kinds++) {
                worked(TOLD[op], op, kinds / 5, kinds % 5, true);
            }
        }
    }
}
