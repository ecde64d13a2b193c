import java.util.NoSuchElementException;

/** Promises 19 and 20: what is traced, and the events. */
final class TraceTest {
    public static void main(String[] args) {
        states();
        events();
        order();
        ring();
        sixteen();
        Checks.close("TraceTest");
    }

    private static void states() {
        SoftController c = Checks.with("var int a, r[3];");
        Checks.same("off already", c.trace(0, 0, false), false);
        Checks.same("on", c.trace(0, 0, true), true);
        Checks.same("on already", c.trace(0, 0, true), false);
        Checks.same("a place of a row", c.trace(1, 2, true), true);
        Checks.same("traced", c.count(7), 2);
        Checks.same("off", c.trace(0, 0, false), true);
        Checks.same("off again", c.trace(0, 0, false), false);
        Checks.same("traced then", c.count(7), 1);
        Checks.refused("event of none", NoSuchElementException.class, () -> c.event(0, 9));
    }

    private static void events() {
        SoftController c = Checks.with("var int a = 5; in byte b at 3; out byte o at 0; task t every 2 { a++; a += now; }");
        c.trace(0, 0, true);
        c.trace(1, 0, true);
        c.trace(2, 0, true);
        c.input(3, 200);
        c.force(true, 0, 1, 1);
        c.scan(4);
        long[][] due = {{2, 0, 0, 9}, {0, 2, 0, 1}, {0, 1, 0, -56}, {0, 0, 0, 6}};
        Checks.same("events", c.count(8), due.length);
        for (int k = 0; k < due.length; k++) {
            for (int what = 0; what < 4; what++) {
                Checks.same("event(" + k + ", " + what + ")", c.event(k, what), due[k][what]);
            }
        }
        // A number that comes back within a TICK, or is poked and poked back, is no event.
        c.poke(0, 0, 1);
        c.poke(0, 0, 9);
        c.trace(0, 0, true);
        c.trace(1, 0, false);
        c.input(3, 1);
        c.poke(2, 0, 0);
        c.clear(0);
        c.scan(1);
        Checks.same("one event more", c.count(8), 5);
        Checks.same("its number", c.event(0, 3), 14);
        c.poke(0, 0, 100);
        c.trace(0, 0, false);
        c.trace(0, 0, true);
        c.scan(1);
        Checks.same("it begins with the number that it has", c.count(8), 5);
        Checks.refused("event(-1)", NoSuchElementException.class, () -> c.event(-1, 9));
        Checks.refused("event(5)", NoSuchElementException.class, () -> c.event(5, 0));
        Checks.refused("event(0, 4)", IllegalArgumentException.class, () -> c.event(0, 4));
        Checks.refused("event(0, -1)", IllegalArgumentException.class, () -> c.event(0, -1));
    }

    private static void order() {
        SoftController c = Checks.with("var int a, b, d; task t every 1 { a++; b++; d++; }");
        c.trace(2, 0, true);
        c.trace(0, 0, true);
        c.trace(1, 0, true);
        c.trace(2, 0, false);
        c.trace(2, 0, true);
        c.scan(1);
        int[] due = {2, 1, 0};
        for (int k = 0; k < 3; k++) {
            Checks.same("event(" + k + ", 1)", c.event(k, 1), due[k]);
        }
    }

    private static void ring() {
        SoftController c = Checks.with("var int a, r[2]; task t every 1 { a++; r[1] -= 2; }");
        c.trace(0, 0, true);
        c.trace(1, 1, true);
        c.scan(49);
        Checks.same("98 events", c.count(8), 98);
        c.scan(50);
        c.scan(1);
        Checks.same("100 events", c.count(8), 100);
        Checks.same("the latest", c.event(0, 3), -200);
        Checks.same("the one ahead of it", c.event(1, 3), 100);
        Checks.same("the 100th latest", c.event(99, 3), 51);
        Checks.same("its TICK", c.event(99, 0), 50);
        Checks.refused("event(100)", NoSuchElementException.class, () -> c.event(100, 0));
        c.trace(0, 0, false);
        c.scan(1);
        Checks.same("100 events still", c.count(8), 100);
        Checks.same("the latest then", c.event(0, 3), -202);
        Checks.same("the 100th latest then", c.event(99, 3), -102);
    }

    private static void sixteen() {
        SoftController c = Checks.with("var int r[20];");
        for (int i = 0; i < 16; i++) {
            Checks.same("trace " + i, c.trace(0, i, true), true);
        }
        Checks.refused("the 17th", IllegalStateException.class, () -> c.trace(0, 16, true));
        Checks.refused("no place", NoSuchElementException.class, () -> c.trace(0, 20, true));
        Checks.same("one of them", c.trace(0, 3, true), false);
        Checks.same("one to be off that is off", c.trace(0, 16, false), false);
        Checks.same("traced", c.count(7), 16);
        Checks.same("one off", c.trace(0, 15, false), true);
        Checks.same("another on", c.trace(0, 19, true), true);
    }
}
