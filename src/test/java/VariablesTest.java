import java.util.NoSuchElementException;

/** Promises 14 to 16, 21 and 22: variables from outside, counts, and the sum. */
final class VariablesTest {
    private static final String TEXT = "var byte b = -5; keep short s[3] = 7; in word w at 62; out long l at 8; var int i[1]; keep long k = 'a';"
            + " block q(byte p) { var int m[2] = 3; } use q u, v; func int f() {} task t every 1 { b++; u(1); }";

    public static void main(String[] args) {
        telling();
        values();
        poking();
        counting();
        summing();
        wrongInputs();
        Checks.close("VariablesTest");
    }

    private static void telling() {
        SoftController c = Checks.with(TEXT);
        int[][] due = {{0, 1, 0, 0, -1}, {1, 3, 1, 1, -1}, {2, 1, 2, 0, 62}, {4, 1, 3, 0, 8}, {3, 1, 0, 1, -1}, {4, 1, 1, 0, -1}};
        for (int v = 0; v < due.length; v++) {
            for (int what = 0; what < 5; what++) {
                Checks.same("variable(" + v + ", " + what + ")", c.variable(v, what), due[v][what]);
            }
        }
    }

    private static void values() {
        SoftController c = Checks.with(TEXT);
        long[][] due = {{0, 0, -5}, {1, 0, 7}, {1, 2, 7}, {2, 0, 0}, {3, 0, 0}, {4, 0, 0}, {5, 0, 97}};
        for (long[] one : due) {
            Checks.same("value(" + one[0] + ", " + one[1] + ")", c.value((int) one[0], (int) one[1]), one[2]);
        }
        Checks.same("field(0, 0, 0)", c.field(0, 0, 0), 0);
        Checks.same("field(1, 1, 1)", c.field(1, 1, 1), 3);
    }

    private static void poking() {
        SoftController c = Checks.with(TEXT);
        Checks.same("poke of a byte", c.poke(0, 0, 200), -56);
        Checks.same("poke of a row", c.poke(1, 2, 40000), -25536);
        Checks.same("what is there", c.value(1, 2), -25536);
        Checks.same("the others stay", c.value(1, 1), 7);
        Checks.same("poke of an int", c.poke(4, 0, 1L << 31), Integer.MIN_VALUE);
        Checks.same("poke of a long", c.poke(5, 0, Long.MIN_VALUE), Long.MIN_VALUE);
        Checks.same("poke of an out", c.poke(3, 0, -3), -3);
        Checks.same("its byte", c.look(3, 15), 253);
        c.scan(1);
        Checks.same("the task goes on with it", c.value(0, 0), -55);
    }

    private static void counting() {
        SoftController c = Checks.with(TEXT);
        int[] due = {6, 2, 1, 1, 1, 0, 0, 0, 0, 0, 3000};
        for (int what = 0; what < due.length; what++) {
            Checks.same("count(" + what + ")", c.count(what), due[what]);
        }
        c.scan(3);
        c.trace(0, 0, true);
        c.watchdog(7);
        c.feed(1, 2, 3, 4, 5);
        c.watchdog(1);
        c.scan(2);
        int[] then = {6, 2, 1, 1, 1, 5, 1, 1, 1, 20, 1};
        for (int what = 0; what < then.length; what++) {
            Checks.same("count(" + what + ") then", c.count(what), then[what]);
        }
    }

    private static void summing() {
        SoftController c = Checks.with(TEXT);
        c.input(63, 9);
        c.scan(1);
        c.poke(3, 0, Long.MAX_VALUE);
        long due = 0;
        for (long number : new long[] {-4, 7, 7, 7, 9, Long.MAX_VALUE, 0, 97, 1, 3, 3, 0, 3, 3}) {
            due = 31 * due + number;
        }
        Checks.same("sum", c.sum(), due);
    }

    private static void wrongInputs() {
        SoftController c = Checks.with(TEXT);
        int[][] none = {{-1, 0}, {6, 0}, {0, 1}, {0, -1}, {1, 3}, {1, -1}, {2, 1}, {3, 1}, {4, 1},
            {Integer.MAX_VALUE, 0}, {Integer.MIN_VALUE, 0}, {1, Integer.MAX_VALUE}};
        long before = c.sum();
        for (int[] one : none) {
            String at = "(" + one[0] + ", " + one[1] + ")";
            Checks.refused("value" + at, NoSuchElementException.class, () -> c.value(one[0], one[1]));
            Checks.refused("poke" + at, NoSuchElementException.class, () -> c.poke(one[0], one[1], 1));
            Checks.refused("trace" + at, NoSuchElementException.class, () -> c.trace(one[0], one[1], true));
            Checks.refused("trace off" + at, NoSuchElementException.class, () -> c.trace(one[0], one[1], false));
        }
        Checks.refused("poke of an in", UnsupportedOperationException.class, () -> c.poke(2, 0, 1));
        Checks.refused("variable(6, 9)", NoSuchElementException.class, () -> c.variable(6, 9));
        Checks.refused("variable(-1, 0)", NoSuchElementException.class, () -> c.variable(-1, 0));
        Checks.refused("variable(0, 5)", IllegalArgumentException.class, () -> c.variable(0, 5));
        Checks.refused("variable(0, -1)", IllegalArgumentException.class, () -> c.variable(0, -1));
        Checks.same("nothing is changed", c.sum(), before);
        // What is told directly behind a block is none of its locals.
        SoftController behind = Checks.with("block k(int p) { var int m[2]; } var int n = 5; use k u; var int last;");
        Checks.refused("field(0, 2, 0)", NoSuchElementException.class, () -> behind.field(0, 2, 0));
        Checks.refused("field(0, 1, 2)", NoSuchElementException.class, () -> behind.field(0, 1, 2));
        SoftController empty = new SoftController();
        Checks.refused("value of nothing", NoSuchElementException.class, () -> empty.value(0, 0));
        Checks.refused("field of nothing", NoSuchElementException.class, () -> empty.field(0, 0, 0));
        Checks.refused("clear of nothing", NoSuchElementException.class, () -> empty.clear(0));
    }
}
