/** Promises 4, 5 and 7: loading cold and warm, FAULTS that leave all as it is, and the power. */
final class ReloadTest {
    private static final String OLD = "var int a = 1; keep long b = 2; var int r[4] = 3; in byte c at 0; out byte d at 0; var short gone = 9;"
            + " block k(int p) { var int m = 4; m += p; } use k u; task t every 1 { a++; b += 1000; r[3] = 77; r[0]--; d = c; u(1); }"
            + " task z every 1 { fault 5; }";
    private static final String NEW = "var byte b = 2; keep int a = 1, n = 6; var int r[6] = 8; in byte d at 0; out byte c at 0; var int k, u, t;"
            + " block gone(int p) {} use gone z; task w every 1 { n++; }";

    public static void main(String[] args) {
        warm();
        cold();
        faulty();
        power();
        Checks.close("ReloadTest");
    }

    private static SoftController ran() {
        SoftController c = Checks.with(OLD);
        c.input(0, 0x55);
        c.force(true, 1, 255, 0x66);
        c.scan(3);
        c.trace(0, 0, true);
        c.scan(2);
        return c;
    }

    private static void warm() {
        SoftController c = ran();
        Checks.same("load warm", Checks.load(c, NEW, true), 0);
        Checks.same("b, CUT to a byte", c.value(0, 0), (byte) 5002);
        Checks.same("a", c.value(1, 0), 6);
        Checks.same("n is new", c.value(2, 0), 6);
        long[] row = {-2, 3, 3, 77, 8, 8};
        for (int i = 0; i < 6; i++) {
            Checks.same("r[" + i + "]", c.value(3, i), row[i]);
        }
        Checks.same("an in variable where an out one was", c.value(4, 0), 0x55);
        Checks.same("an out variable where an in one was", c.value(5, 0), 0x55);
        for (int v = 6; v < 9; v++) {
            Checks.same("of other things nothing is kept", c.value(v, 0), 0);
        }
        Checks.same("the TICK goes on", c.count(5), 5);
        Checks.same("nothing traced", c.count(7), 0);
        Checks.same("the TRACE is empty", c.count(8), 0);
        Checks.same("none STOPPED", c.count(6), 0);
        Checks.same("runs since it was loaded", c.task(0, 3), 0);
        Checks.same("forced bits stay", c.look(5, 1), 255);
        Checks.same("the FIELD stays", c.look(1, 1), 0x66);
        Checks.same("the IMAGE stays", c.look(3, 1), 0x66);
        // Back again: a row and what is none have place 0 in common; instances are as at first.
        Checks.same("load warm again", Checks.load(c, "var long r; keep int a[3] = 5; block k(int p) { var int m = 4; } use k u;", true), 0);
        Checks.same("r", c.value(0, 0), -2);
        Checks.same("a[0]", c.value(1, 0), 6);
        Checks.same("a[1]", c.value(1, 1), 5);
        Checks.same("m", c.field(0, 1, 0), 4);
        Checks.same("load of an empty text, warm", c.load(true), 0);
        Checks.same("variables", c.count(0), 0);
        Checks.same("TICK", c.count(5), 5);
    }

    private static void cold() {
        SoftController c = ran();
        Checks.same("load cold", Checks.load(c, OLD, false), 0);
        long[] due = {1, 2, 3, 0, 0, 9};
        for (int v = 0; v < due.length; v++) {
            Checks.same("variable " + v, c.value(v, 0), due[v]);
        }
        Checks.same("r[3]", c.value(2, 3), 3);
        Checks.same("m", c.field(0, 1, 0), 4);
        Checks.same("p", c.field(0, 0, 0), 0);
        Checks.same("TICK", c.count(5), 0);
        Checks.same("the IMAGE of inputs", c.look(2, 0), 0);
        Checks.same("the IMAGE of outputs", c.look(3, 1), 0);
        Checks.same("the FIELD's inputs stay", c.look(0, 0), 0x55);
        Checks.same("the FIELD's outputs stay", c.look(1, 1), 0x66);
        Checks.same("forced bits stay", c.look(7, 1), 0x66);
        Checks.same("none STOPPED", c.count(6), 0);
        Checks.same("no FAULT", c.task(1, 5), 0);
        Checks.same("nothing traced", c.count(7), 0);
        Checks.same("the TRACE is empty", c.count(8), 0);
    }

    private static void faulty() {
        SoftController c = ran();
        long sum = c.sum();
        Checks.same("a FAULT", Checks.load(c, "var byte a = 1000;", false), 5);
        Checks.same("its place", c.place(), 13);
        Checks.same("another", Checks.load(c, "var byte a; task a every 1 {}", true), 3);
        Checks.same("its place then", c.place(), 17);
        Checks.same("the numbers stay", c.sum(), sum);
        Checks.same("the TICK stays", c.count(5), 5);
        Checks.same("what is traced stays", c.count(7), 1);
        Checks.same("the TRACE stays", c.count(8), 2);
        Checks.same("STOPPED stays", c.count(6), 1);
        Checks.same("it runs on", c.scan(2), 2);
        Checks.same("a", c.value(0, 0), 8);
        Checks.same("the TAPE is empty", c.count(9), 0);
        Checks.same("load without FAULT", c.load(false), 0);
        Checks.same("no place then", c.place(), -1);
    }

    private static void power() {
        SoftController c = ran();
        c.power();
        long[] due = {1, 5002, 3, 0, 0, 9};
        for (int v = 0; v < due.length; v++) {
            Checks.same("variable " + v, c.value(v, 0), due[v]);
        }
        Checks.same("r[3]", c.value(2, 3), 3);
        Checks.same("m", c.field(0, 1, 0), 4);
        Checks.same("p", c.field(0, 0, 0), 0);
        Checks.same("TICK", c.count(5), 0);
        Checks.same("none STOPPED", c.count(6), 0);
        Checks.same("runs since it was loaded", c.task(0, 3), 5);
        Checks.same("the latest FAULT stays", c.task(1, 5), 5);
        for (int what = 2; what < 4; what++) {
            Checks.same("an IMAGE", c.look(what, 0) + c.look(what, 1), 0);
        }
        Checks.same("the FIELD's inputs stay", c.look(0, 0), 0x55);
        Checks.same("the FIELD's outputs stay", c.look(1, 1), 0x66);
        Checks.same("forced bits stay", c.look(5, 1), 255);
        Checks.same("what is traced stays", c.count(7), 1);
        Checks.same("the TRACE stays", c.count(8), 2);
        c.scan(1);
        Checks.same("an event, for it was 6", c.count(8), 3);
        Checks.same("its TICK", c.event(0, 0), 0);
        Checks.same("its number", c.event(0, 3), 2);
        SoftController d = Checks.with("keep byte r[3] = 4; var byte s[3] = 4; task t every 1 { r[1]++; s[1]++; }");
        d.scan(2);
        d.power();
        Checks.same("a kept row", d.value(0, 1), 6);
        Checks.same("a row that is not kept", d.value(1, 1), 4);
    }
}
