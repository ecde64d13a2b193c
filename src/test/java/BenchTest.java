/** Promises 23 to 25: the bench. */
final class BenchTest {
    private static final int BYTE = 0;
    private static final int SHORT = 1;
    private static final int WORD = 2;
    private static final int INT = 3;
    private static final int LONG = 4;

    public static void main(String[] args) {
        SoftController c = new SoftController();
        cuts(c);
        works(c);
        shifts(c);
        tells(c);
        wrongInputs(c);
        Checks.close("BenchTest");
    }

    private static void cuts(SoftController c) {
        long[][] rows = {
            {BYTE, 127, 127}, {BYTE, 128, -128}, {BYTE, -129, 127}, {BYTE, 0xff00, 0},
            {SHORT, 32768, -32768}, {SHORT, -32769, 32767}, {WORD, -1, 65535}, {WORD, 65536, 0},
            {WORD, Long.MIN_VALUE, 0}, {INT, 1L << 31, Integer.MIN_VALUE}, {INT, 1L << 32, 0},
            {LONG, Long.MIN_VALUE, Long.MIN_VALUE}, {LONG, -1, -1}};
        for (long[] r : rows) {
            Checks.same("cut(" + r[0] + ", " + r[1] + ")", c.cut((int) r[0], r[1]), r[2]);
        }
    }

    private static void work(SoftController c, int op, int kind, int right, long a, long b, long due) {
        Checks.same("work(" + op + ", " + kind + ", " + right + ", " + a + ", " + b + ")",
                c.work(op, kind, right, a, b), due);
    }

    private static void works(SoftController c) {
        work(c, 0, BYTE, INT, 127, 1, -128);
        work(c, 0, WORD, INT, 65535, 1, 0);
        work(c, 1, WORD, BYTE, 0, 1, 65535);
        work(c, 2, INT, INT, 65536, 65536, 0);
        work(c, 2, LONG, INT, 65536L * 65536, 2, 1L << 33);
        work(c, 3, INT, INT, Integer.MIN_VALUE, -1, Integer.MIN_VALUE);
        work(c, 3, LONG, BYTE, Long.MIN_VALUE, -1, Long.MIN_VALUE);
        work(c, 3, BYTE, BYTE, -7, 2, -3);
        work(c, 4, INT, INT, Integer.MIN_VALUE, -1, 0);
        work(c, 4, LONG, LONG, Long.MIN_VALUE, -1, 0);
        work(c, 4, SHORT, SHORT, -7, 3, -1);
        work(c, 4, SHORT, SHORT, 7, -3, 1);
        work(c, 5, BYTE, WORD, -1, 0x1234, 0x34);
        work(c, 6, WORD, BYTE, 0x100, -1, 65535);
        work(c, 7, LONG, INT, -1, -1, 0);
        // The right side's KIND may make it long work, though the left side is cut again.
        work(c, 3, INT, LONG, -5, 1L << 32, 0);
        work(c, 3, INT, INT, -5, (1L << 32) + 1, -5);
    }

    private static void shifts(SoftController c) {
        work(c, 8, BYTE, INT, 1, 33, 2);
        work(c, 8, INT, INT, 1, 32, 1);
        work(c, 8, INT, LONG, 1, 33, 2);
        work(c, 8, LONG, INT, 1, 33, 1L << 33);
        work(c, 8, LONG, INT, 1, 65, 2);
        work(c, 9, BYTE, BYTE, -128, 3, -16);
        work(c, 9, WORD, INT, 0x8000, 15, 1);
        work(c, 9, INT, INT, -1, -1, -1);
        work(c, 10, BYTE, INT, -1, 1, -1);
        work(c, 10, BYTE, INT, -1, 28, 15);
        work(c, 10, INT, INT, -1, 31, 1);
        work(c, 10, LONG, INT, -1, 63, 1);
        work(c, 10, LONG, INT, -1, 64, -1);
    }

    private static void tell(SoftController c, int op, int kind, int right, long a, long b, long due) {
        Checks.same("tell(" + op + ", " + kind + ", " + right + ", " + a + ", " + b + ")",
                c.tell(op, kind, right, a, b), due);
    }

    private static void tells(SoftController c) {
        long[][] compared = {{0, 0, 1, 0}, {1, 1, 0, 1}, {2, 1, 0, 0}, {3, 1, 1, 0}, {4, 0, 0, 1}, {5, 0, 1, 1}};
        for (long[] r : compared) {
            tell(c, (int) r[0], INT, LONG, -5, 3, r[1]);
            tell(c, (int) r[0], WORD, SHORT, 7, 7, r[2]);
            tell(c, (int) r[0], WORD, SHORT, -1, -1, r[3]);
        }
        tell(c, 6, WORD, BYTE, -1, -1, -1);
        tell(c, 7, WORD, BYTE, -1, -1, 65535);
        tell(c, 6, LONG, INT, Long.MIN_VALUE, 0, Long.MIN_VALUE);
        tell(c, 7, BYTE, LONG, 5, 1L << 40, 1L << 40);
        tell(c, 8, INT, INT, 0x80000001, 1, 3);
        tell(c, 8, BYTE, LONG, -2, 33, -3);
        tell(c, 8, LONG, BYTE, 1, 63, Long.MIN_VALUE);
        tell(c, 8, INT, INT, 5, 0, 5);
        tell(c, 9, INT, INT, 1, 1, Integer.MIN_VALUE);
        tell(c, 9, LONG, INT, 1, 65, Long.MIN_VALUE);
        tell(c, 9, INT, INT, 5, 32, 5);
        tell(c, 10, INT, LONG, Integer.MIN_VALUE, 0, Integer.MIN_VALUE);
        tell(c, 10, BYTE, BYTE, -128, 0, 128);
        tell(c, 10, LONG, BYTE, Long.MIN_VALUE, 0, Long.MIN_VALUE);
        tell(c, 11, BYTE, LONG, 1, 0, Integer.MIN_VALUE);
        tell(c, 11, LONG, BYTE, 2, 0, 1L << 62);
        tell(c, 12, BYTE, LONG, -1, 0, 32);
        tell(c, 12, WORD, LONG, -1, 0, 16);
        tell(c, 12, LONG, BYTE, -1, 0, 64);
        tell(c, 13, BYTE, LONG, 1, 0, 31);
        tell(c, 13, LONG, BYTE, 1, 0, 63);
        tell(c, 13, INT, INT, 0, 0, 32);
        tell(c, 13, LONG, INT, 0, 0, 64);
        tell(c, 13, SHORT, INT, -1, 0, 0);
        tell(c, 14, INT, LONG, Integer.MIN_VALUE, 0, Integer.MIN_VALUE);
        tell(c, 14, BYTE, BYTE, -128, 0, 128);
        tell(c, 15, WORD, LONG, 0, 0, -1);
        tell(c, 15, LONG, BYTE, 5, 0, -6);
        tell(c, 16, LONG, BYTE, 0, 0, 1);
        tell(c, 16, BYTE, BYTE, 256, 0, 1);
        tell(c, 16, BYTE, BYTE, -3, 0, 0);
    }

    private static void wrongInputs(SoftController c) {
        int[] bad = {-1, 5, Integer.MIN_VALUE, Integer.MAX_VALUE};
        for (int kind : bad) {
            Checks.refused("cut of " + kind, IllegalArgumentException.class, () -> c.cut(kind, 0));
            Checks.refused("work " + kind, IllegalArgumentException.class, () -> c.work(3, kind, 0, 1, 0));
            Checks.refused("work by " + kind, IllegalArgumentException.class, () -> c.work(3, 0, kind, 1, 0));
            Checks.refused("tell " + kind, IllegalArgumentException.class, () -> c.tell(10, kind, 0, 1, 0));
            Checks.refused("tell by " + kind, IllegalArgumentException.class, () -> c.tell(10, 0, kind, 1, 0));
        }
        for (int op : new int[] {-1, 11, 17}) {
            Checks.refused("work op " + op, IllegalArgumentException.class, () -> c.work(op, 0, 0, 1, 0));
        }
        Checks.refused("tell op -1", IllegalArgumentException.class, () -> c.tell(-1, 0, 0, 1, 0));
        Checks.refused("tell op 17", IllegalArgumentException.class, () -> c.tell(17, 0, 0, 1, 0));
        Checks.refused("/ 0", ArithmeticException.class, () -> c.work(3, 4, 4, 1, 0));
        Checks.refused("% 0", ArithmeticException.class, () -> c.work(4, 0, 0, 1, 256));
        Checks.refused("& 0", null, () -> c.work(5, 0, 0, 1, 0));
    }
}
