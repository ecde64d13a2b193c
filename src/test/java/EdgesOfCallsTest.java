import java.util.NoSuchElementException;

/** Promises 1 to 25: the last argument that is taken, the first that is not, and that what is refused changes nothing. */
final class EdgesOfCallsTest {
    private static final int LEAST = Integer.MIN_VALUE;
    private static final int MOST = Integer.MAX_VALUE;
    private static final Class<?> ARGUMENT = IllegalArgumentException.class;
    private static final Class<?> INDEX = IndexOutOfBoundsException.class;
    private static final Class<?> ELEMENT = NoSuchElementException.class;

    public static void main(String[] args) {
        newObject();
        feeding();
        ending();
        loadingNothing();
        loadingFaults();
        places();
        scanning();
        poweringNothing();
        inputs();
        looks();
        forces();
        watchdogs();
        tasks();
        variables();
        fields();
        finding();
        tracing();
        events();
        counting();
        summing();
        bench();
        Checks.close("EdgesOfCallsTest");
    }

    /** An object with something of everything: a STOPPED task, events, forced bits, a FAULT of a text, bytes on the TAPE. */
    private static SoftController rich() {
        SoftController c = Checks.with("var int n, z, r[3] = 2; in byte k at 0; out word o at 62; keep long l = 9; block b(int p) { var int m[2]; m[1] += p; }"
                + " use b u, v; func int f(int x) { return x; } task t every 1 { n++; o++; l--; u(n); } task s every 2 after 1 { z = 1 / z; }");
        c.input(0, 0x5a);
        c.force(false, 0, 0x0f, 5);
        c.force(true, 63, 0xf0, 0x30);
        c.watchdog(77);
        c.trace(0, 0, true);
        c.trace(4, 0, true);
        c.scan(4);
        Checks.load(c, "var", true);
        Checks.feed(c, "r");
        return c;
    }

    private static void refused(String what, Class<?> due, Checks.Use use) {
        Checks.refusedOn(rich(), what, due, use);
    }

    /** An empty text is loaded; all of the FIELD is 0, nothing forced, the watchdog at 3000, the TRACE empty. */
    private static void newObject() {
        for (int what = 0; what < 8; what++) {
            SoftController c = new SoftController();
            for (int at = 0; at < 64; at++) {
                Checks.same("look(" + what + ", " + at + ")", c.look(what, at), 0);
            }
        }
        SoftController c = new SoftController();
        int[] due = {0, 0, 0, 0, 0, 0, 0, 0, 0, 0, 3000};
        for (int what = 0; what < due.length; what++) {
            Checks.same("count(" + what + ")", c.count(what), due[what]);
        }
        Checks.same("place", c.place(), SoftController.NONE);
        Checks.same("NONE", SoftController.NONE, -1);
        Checks.same("sum", c.sum(), 0);
        for (int sort = 0; sort < 5; sort++) {
            Checks.same("find", c.find(sort), -1);
        }
        Checks.refusedOn(c, "value", ELEMENT, x -> x.value(0, 0));
        Checks.refusedOn(c, "poke", ELEMENT, x -> x.poke(0, 0, 1));
        Checks.refusedOn(c, "variable", ELEMENT, x -> x.variable(0, 0));
        Checks.refusedOn(c, "field", ELEMENT, x -> x.field(0, 0, 0));
        Checks.refusedOn(c, "task", ELEMENT, x -> x.task(0, 0));
        Checks.refusedOn(c, "clear", ELEMENT, x -> x.clear(0));
        Checks.refusedOn(c, "trace", ELEMENT, x -> x.trace(0, 0, true));
        Checks.refusedOn(c, "event", ELEMENT, x -> x.event(0, 0));
        Checks.same("TICKS without a task", c.scan(50), 0);
        Checks.same("the next TICK", c.count(5), 50);
    }

    /** Twenty bytes, the highest of each number first; false, changing nothing, if it would have more than 6000. */
    private static void feeding() {
        SoftController c = new SoftController();
        Checks.same("feed", c.feed(0x76617220, 0x696e7420, 0x6120203d, 0x20202030, 0x3031373b), true);
        Checks.same("twenty bytes", c.count(9), 20);
        Checks.same("\"var int a  =    0017;\"", c.load(false), 0);
        Checks.same("its number", c.value(0, 0), 17);
        for (int bytes : new int[] {0, 1, 5979, 5980, 5981, 5999, 6000}) {
            SoftController d = new SoftController();
            Checks.feed(d, " ".repeat(bytes));
            String before = Checks.state(d);
            boolean has = bytes <= 5980;
            Checks.same("feed behind " + bytes, d.feed(1, 2, 3, 4, 5), has);
            Checks.same("bytes then", d.count(9), has ? bytes + 20 : bytes);
            if (!has) {
                Checks.unchanged("feed behind " + bytes, d, before);
                Checks.same("the TAPE is as it was", d.load(false), 0);
            } else {
                Checks.same("the TAPE has the new bytes", d.load(false), 1);
                Checks.same("the first of them", d.place(), bytes);
            }
        }
    }

    /** The TAPE has its first n bytes alone; false, changing nothing, if it hasn't so many, or n is below 0. */
    private static void ending() {
        for (int n : new int[] {LEAST, -1, 0, 1, 10, 11, MOST}) {
            SoftController c = new SoftController();
            Checks.feed(c, "var int a;");
            boolean has = n >= 0 && n <= 10;
            Checks.same("end(" + n + ")", c.end(n), has);
            Checks.same("bytes", c.count(9), has ? n : 10);
            Checks.same("load", c.load(false), n == 1 ? 2 : 0);
            Checks.same("variables", c.count(0), n == 0 || n == 1 ? 0 : 1);
            Checks.same("end of nothing", c.end(1), false);
            Checks.same("end(0) of nothing", c.end(0), true);
        }
        SoftController c = new SoftController();
        Checks.feed(c, "x".repeat(6000));
        Checks.same("end(6001)", c.end(6001), false);
        Checks.same("end(6000)", c.end(6000), true);
        // What comes behind an end comes behind the bytes that are left.
        c.end(0);
        Checks.feed(c, "varxxxxxxxxxxxxxxxxx");
        c.end(3);
        c.feed(0x20696e74, 0x20613b20, 0x20202020, 0x20202020, 0x20202020);
        Checks.same("\"var\" and \" int a; \"", c.load(false), 0);
        Checks.same("its variable", c.count(0), 1);
    }

    /** An empty TAPE is an empty text: nothing is loaded then, cold and warm. */
    private static void loadingNothing() {
        for (boolean warm : new boolean[] {false, true}) {
            SoftController c = rich();
            c.end(0);
            Checks.same("load", c.load(warm), 0);
            Checks.same("place", c.place(), -1);
            int[] due = {0, 0, 0, 0, 0, warm ? 4 : 0, 0, 0, 0, 0, 77};
            for (int what = 0; what < due.length; what++) {
                Checks.same("count(" + what + ")", c.count(what), due[what]);
            }
            Checks.same("sum", c.sum(), 0);
            Checks.same("the IMAGE of inputs", c.look(2, 0), warm ? 0x55 : 0);
            Checks.same("the IMAGE of outputs", c.look(3, 63), warm ? 0x34 : 0);
            Checks.same("the FIELD's inputs", c.look(0, 0), 0x5a);
            Checks.same("the FIELD's outputs", c.look(1, 63), 0x34);
            Checks.same("forced bits", c.look(4, 0) * 1000 + c.look(7, 63), 15048);
            Checks.same("TICKS", c.scan(3), 0);
        }
    }

    /** Its FAULT, and what is loaded stays: all but the TAPE and the place is as it was. */
    private static void loadingFaults() {
        String[] texts = {"#", "var", "var int a, a;", "var int a[2]; task t every 1 { a = 1; }", "var byte n = 128;"};
        int[] places = {0, 3, 11, 31, 13};
        for (int n = 0; n < texts.length; n++) {
            for (boolean warm : new boolean[] {false, true}) {
                SoftController c = rich();
                String before = Checks.state(c);
                c.end(0);
                Checks.same("load of " + texts[n], Checks.load(c, texts[n], warm), n + 1);
                Checks.same("its place", c.place(), places[n]);
                Checks.same("the TAPE is empty", c.count(9), 0);
                // The same FAULT and TAPE as ahead of it again: then all is the same.
                Checks.load(c, "var", false);
                Checks.feed(c, "r");
                Checks.unchanged("a FAULT " + (n + 1), c, before);
                Checks.same("it runs on", c.scan(2), 2);
            }
        }
    }

    /** The place of the FAULT that the latest load() told; NONE without; no other call changes it. */
    private static void places() {
        SoftController c = new SoftController();
        Checks.same("at first", c.place(), -1);
        Checks.load(c, "#", false);
        Checks.same("the first byte", c.place(), 0);
        Checks.load(c, "var int a", false);
        Checks.same("the text's length", c.place(), 9);
        Checks.feed(c, "var int b;");
        c.find(0);
        c.scan(1);
        c.power();
        Checks.same("until the next load", c.place(), 9);
        Checks.same("load", c.load(true), 0);
        Checks.same("none", c.place(), -1);
        Checks.load(c, " ".repeat(5999) + "#", false);
        Checks.same("the last byte", c.place(), 5999);
        Checks.load(c, " ".repeat(5990) + "var int ab", false);
        Checks.same("behind the last byte", c.place(), 6000);
    }

    private static void scanning() {
        for (int n : new int[] {LEAST, -50, -1, 0, 51, 100, MOST}) {
            refused("scan(" + n + ")", ARGUMENT, c -> c.scan(n));
        }
        SoftController c = Checks.with("task t every 1 {}");
        Checks.same("scan(1)", c.scan(1), 1);
        Checks.same("scan(50)", c.scan(50), 50);
        Checks.same("the next TICK", c.count(5), 51);
    }

    /** The power goes and comes with nothing loaded: the FIELD and forced bits stay. */
    private static void poweringNothing() {
        SoftController c = new SoftController();
        c.input(0, 1);
        c.force(true, 63, 255, 7);
        c.scan(2);
        c.power();
        Checks.same("TICK", c.count(5), 0);
        Checks.same("IMAGES", c.look(2, 0) + c.look(3, 63), 0);
        Checks.same("FIELD", c.look(0, 0) * 10 + c.look(1, 63), 17);
        Checks.same("forced", c.look(5, 63) + c.look(7, 63), 262);
        c.scan(1);
        Checks.same("IMAGES then", c.look(2, 0) * 10 + c.look(3, 63), 17);
        SoftController d = rich();
        d.power();
        d.power();
        Checks.same("kept", d.value(5, 0), 5);
        Checks.same("not kept", d.value(0, 0), 0);
        Checks.same("none STOPPED", d.count(6), 0);
        Checks.same("the latest FAULT is told still", d.task(1, 5), 1);
        Checks.same("events", d.count(8), 8);
        Checks.same("begun", d.scan(2), 3);
        Checks.same("STOPPED again", d.count(6), 1);
        Checks.same("at its TICK", d.task(1, 7), 1);
    }

    private static void inputs() {
        for (int at : new int[] {LEAST, -1, 64, MOST}) {
            refused("input(" + at + ")", INDEX, c -> c.input(at, 1));
        }
        SoftController c = new SoftController();
        for (int at : new int[] {0, 63}) {
            for (int v : new int[] {0, 255, 256, 511, -1, -256, LEAST, MOST, 0x180}) {
                c.input(at, v);
                Checks.same("input(" + at + ", " + v + ")", c.look(0, at), v & 255);
            }
        }
        Checks.same("no other byte", c.look(0, 1) + c.look(0, 62) + c.look(1, 0) + c.look(2, 0), 0);
    }

    private static void looks() {
        for (int at : new int[] {LEAST, -1, 64, MOST}) {
            for (int what = 0; what < 8; what++) {
                int row = what;
                refused("look(" + what + ", " + at + ")", INDEX, c -> c.look(row, at));
            }
        }
        for (int what : new int[] {LEAST, -1, 8, MOST}) {
            for (int at : new int[] {-1, 0, 63, 64}) {
                refused("look(" + what + ", " + at + ")", ARGUMENT, c -> c.look(what, at));
            }
        }
        SoftController c = rich();
        int[][] due = {{0, 0x5a}, {63, 0x34}, {0, 0x55}, {63, 0x34}, {0, 0x0f}, {63, 0xf0}, {0, 5}, {63, 0x30}};
        for (int what = 0; what < 8; what++) {
            Checks.same("look(" + what + ")", c.look(what, due[what][0]), due[what][1]);
        }
    }

    /** The bits of mask (lowest 8) are forced from now on, as v's; the others are not. */
    private static void forces() {
        for (int at : new int[] {LEAST, -1, 64, MOST}) {
            refused("force in " + at, INDEX, c -> c.force(false, at, 255, 255));
            refused("force out " + at, INDEX, c -> c.force(true, at, 255, 255));
        }
        for (boolean out : new boolean[] {false, true}) {
            for (int at : new int[] {0, 63}) {
                SoftController c = Checks.with("out byte a at 0; out byte z at 63; task t every 1 { a = 0x3c; z = 0x3c; }");
                c.input(at, 0x3c);
                for (int[] row : new int[][] {{0, 255}, {255, 0}, {255, 255}, {256, 511}, {-1, 0x5a}, {0x181, 0x180}, {0x0f, 0xf5}, {1, -2}, {0x80, LEAST}, {0, 0}}) {
                    c.force(out, at, row[0], row[1]);
                    int mask = row[0] & 255;
                    int as = row[1] & mask;
                    Checks.same("which", c.look(out ? 5 : 4, at), mask);
                    Checks.same("as what", c.look(out ? 7 : 6, at), as);
                    c.scan(1);
                    Checks.same("the IMAGE", c.look(out ? 3 : 2, at), 0x3c & ~mask | as);
                    Checks.same("the FIELD", c.look(out ? 1 : 0, at), out ? 0x3c & ~mask | as : 0x3c);
                }
                Checks.same("not the other side", c.look(out ? 4 : 5, at), 0);
                Checks.same("no other byte", c.look(out ? 5 : 4, at == 0 ? 1 : 62), 0);
            }
        }
    }

    private static void watchdogs() {
        for (int n : new int[] {LEAST, -1, 0, 5001, MOST}) {
            refused("watchdog(" + n + ")", ARGUMENT, c -> c.watchdog(n));
        }
        SoftController c = new SoftController();
        for (int n : new int[] {1, 2, 4999, 5000}) {
            c.watchdog(n);
            Checks.same("watchdog(" + n + ")", c.count(10), n);
        }
        Checks.load(c, "var int a;", false);
        c.power();
        Checks.same("it stays", c.count(10), 5000);
    }

    private static void tasks() {
        for (int task : new int[] {LEAST, -1, 2, MOST}) {
            refused("clear(" + task + ")", ELEMENT, c -> c.clear(task));
            for (int what : new int[] {-1, 0, 8, 9}) {
                refused("task(" + task + ", " + what + ")", ELEMENT, c -> c.task(task, what));
            }
        }
        for (int what : new int[] {LEAST, -1, 9, MOST}) {
            refused("task(0, " + what + ")", ARGUMENT, c -> c.task(0, what));
            refused("task(1, " + what + ")", ARGUMENT, c -> c.task(1, what));
        }
    }

    private static void variables() {
        int[][] none = {{LEAST, 0}, {-1, 0}, {6, 0}, {MOST, 0}, {0, -1}, {0, 1}, {2, -1}, {2, 3}, {2, MOST}, {2, LEAST}, {3, 1}, {3, -1}, {4, 1}, {5, 1}};
        for (int[] one : none) {
            String at = "(" + one[0] + ", " + one[1] + ")";
            refused("value" + at, ELEMENT, c -> c.value(one[0], one[1]));
            refused("poke" + at, ELEMENT, c -> c.poke(one[0], one[1], 7));
            refused("trace on" + at, ELEMENT, c -> c.trace(one[0], one[1], true));
            refused("trace off" + at, ELEMENT, c -> c.trace(one[0], one[1], false));
        }
        refused("poke of an in variable", UnsupportedOperationException.class, c -> c.poke(3, 0, 7));
        for (int variable : new int[] {LEAST, -1, 6, MOST}) {
            for (int what : new int[] {-1, 0, 4, 5}) {
                refused("variable(" + variable + ", " + what + ")", ELEMENT, c -> c.variable(variable, what));
            }
        }
        for (int what : new int[] {LEAST, -1, 5, MOST}) {
            refused("variable(0, " + what + ")", ARGUMENT, c -> c.variable(0, what));
        }
        // A poke answers what is there then: CUT to each KIND.
        String[] kinds = {"byte", "short", "word", "int", "long"};
        for (int kind = 0; kind < 5; kind++) {
            SoftController c = Checks.with("var K a, r[2]; out K o at 56;".replace("K", kinds[kind]));
            for (long v : new long[] {127, 128, 255, 256, 32767, 32768, 65535, 65536, 1L << 31, 1L << 32, -1, -129, Long.MIN_VALUE, Long.MAX_VALUE}) {
                long due = c.cut(kind, v);
                Checks.same("poke " + v, c.poke(0, 0, v), due);
                Checks.same("value", c.value(0, 0), due);
                Checks.same("poke of a row", c.poke(1, 1, v), due);
                Checks.same("value there", c.value(1, 1), due);
                Checks.same("poke of an out variable", c.poke(2, 0, v), due);
                Checks.same("value of it", c.value(2, 0), due);
            }
            Checks.same("the row's other place", c.value(1, 0), 0);
        }
    }

    private static void fields() {
        int[][] none = {{LEAST, 0, 0}, {-1, 0, 0}, {2, 0, 0}, {MOST, 0, 0}, {0, -1, 0}, {0, 2, 0}, {0, LEAST, 0}, {0, MOST, 0}, {0, 0, -1}, {0, 0, 1},
            {0, 1, -1}, {0, 1, 2}, {1, 1, MOST}, {1, 1, LEAST}};
        for (int[] one : none) {
            refused("field(" + one[0] + ", " + one[1] + ", " + one[2] + ")", ELEMENT, c -> c.field(one[0], one[1], one[2]));
        }
        SoftController c = rich();
        Checks.same("p of u", c.field(0, 0, 0), 4);
        Checks.same("m[0] of u", c.field(0, 1, 0), 0);
        Checks.same("m[1] of u", c.field(0, 1, 1), 10);
        Checks.same("m[1] of v", c.field(1, 1, 1), 0);
        SoftController d = Checks.with("block k() {} use k x;");
        Checks.refusedOn(d, "field of a block that has none", ELEMENT, x -> x.field(0, 0, 0));
    }

    /** Of which the TAPE is the NAME, byte by byte; the TAPE stays. */
    private static void finding() {
        for (int sort : new int[] {LEAST, -1, 5, MOST}) {
            refused("find(" + sort + ")", ARGUMENT, c -> c.find(sort));
        }
        SoftController c = rich();
        String before = Checks.state(c);
        Checks.same("r", c.find(0), 2);
        for (int sort = 1; sort < 5; sort++) {
            Checks.same("r as " + sort, c.find(sort), -1);
        }
        Checks.unchanged("find", c, before);
        SoftController d = Checks.with("var int twelve_chars, twelve_charz, a; block k(int p) { var int q; } use k x; func int f(int g) {} task t every 1 {}");
        String[] names = {"twelve_chars", "twelve_charz", "twelve_char", "twelve_charss", "a", "A", "aa", "a ", " a", "", "a\0", "\0", "p", "q", "g", "abs", "var", "1",
            "a;", "k", "x", "f", "t"};
        int[] sorts = {0, 0, -1, -1, 0, -1, -1, -1, -1, -1, -1, -1, -1, -1, -1, -1, -1, -1, -1, 3, 1, 4, 2};
        int[] numbers = {0, 1, -1, -1, 2, -1, -1, -1, -1, -1, -1, -1, -1, -1, -1, -1, -1, -1, -1, 0, 0, 0, 0};
        for (int n = 0; n < names.length; n++) {
            d.end(0);
            Checks.feed(d, names[n]);
            for (int sort = 0; sort < 5; sort++) {
                Checks.same("'" + names[n] + "' as " + sort, d.find(sort), sort == sorts[n] ? numbers[n] : -1);
            }
        }
        // Bytes between, however many, make it another NAME; so does all that is behind the NAME.
        for (String longer : new String[] {"twelve_czzhars", "twelve_czzzzhars", "twelve_charstwelve_chars", "a".repeat(6000)}) {
            d.end(0);
            Checks.feed(d, longer);
            Checks.same(longer.length() + " bytes", d.find(0), -1);
        }
        // The latest load's text does not matter, when it was refused.
        d.end(0);
        Checks.same("load of a FAULT", Checks.load(d, "#", false), 1);
        Checks.feed(d, "twelve_charz");
        Checks.same("twelve_charz", d.find(0), 1);
    }

    /** It is to be traced, 16 are already, and this one is not. */
    private static void tracing() {
        SoftController c = Checks.with("var int r[20]; in byte k at 0; out byte o at 0;");
        Checks.same("an in variable", c.trace(1, 0, true), true);
        Checks.same("an out variable", c.trace(2, 0, true), true);
        for (int i = 0; i < 14; i++) {
            Checks.same("trace " + i, c.trace(0, i, true), true);
        }
        Checks.same("16 are", c.count(7), 16);
        Checks.refusedOn(c, "the 17th", IllegalStateException.class, x -> x.trace(0, 14, true));
        Checks.refusedOn(c, "no place", ELEMENT, x -> x.trace(0, 20, true));
        Checks.same("one that is", c.trace(0, 13, true), false);
        Checks.same("one that is not, off", c.trace(0, 14, false), false);
        Checks.same("one off", c.trace(0, 0, false), true);
        Checks.same("the 16th again", c.trace(0, 14, true), true);
        Checks.refusedOn(c, "the 17th again", IllegalStateException.class, x -> x.trace(0, 0, true));
        Checks.load(c, "var int r[20];", true);
        Checks.same("nothing is, behind a load", c.count(7), 0);
    }

    /** The latest 100 are kept; 0 is the latest. */
    private static void events() {
        for (int k : new int[] {LEAST, -1, 8, 100, MOST}) {
            for (int what : new int[] {-1, 0, 3, 4}) {
                refused("event(" + k + ", " + what + ")", ELEMENT, c -> c.event(k, what));
            }
        }
        for (int what : new int[] {LEAST, -1, 4, MOST}) {
            refused("event(0, " + what + ")", ARGUMENT, c -> c.event(0, what));
            refused("event(7, " + what + ")", ARGUMENT, c -> c.event(7, what));
        }
        SoftController c = Checks.with("var int n; task t every 1 { n++; }");
        c.trace(0, 0, true);
        for (int ticks : new int[] {50, 49, 1, 1, 50, 49, 1}) {
            c.scan(ticks);
            int next = c.count(5);
            int kept = Math.min(next, 100);
            Checks.same("events", c.count(8), kept);
            for (int k : new int[] {0, 1, kept - 1}) {
                Checks.same("TICK of event " + k, c.event(k, 0), next - 1 - k);
                Checks.same("its number", c.event(k, 3), next - k);
            }
            Checks.refused("event(" + kept + ")", ELEMENT, () -> c.event(kept, 0));
        }
        // 16 events in one TICK, in the order in which tracing began.
        SoftController d = Checks.with("var int r[16], i; task t every 1 { for i = 0 .. 15 { r[i] += i + 1; } }");
        for (int i = 0; i < 16; i++) {
            d.trace(0, (i * 5) % 16, true);
        }
        d.scan(7);
        Checks.same("112 events, 100 kept", d.count(8), 100);
        for (int k = 0; k < 100; k++) {
            int at = (111 - k) % 16 * 5 % 16;
            int tick = (111 - k) / 16;
            Checks.same("TICK of " + k, d.event(k, 0), tick);
            Checks.same("place of " + k, d.event(k, 2), at);
            Checks.same("number of " + k, d.event(k, 3), (tick + 1) * (at + 1));
        }
    }

    private static void counting() {
        for (int what : new int[] {LEAST, -1, 11, MOST}) {
            refused("count(" + what + ")", ARGUMENT, c -> c.count(what));
        }
        SoftController c = rich();
        int[] due = {6, 2, 2, 1, 1, 4, 1, 2, 8, 1, 77};
        for (int what = 0; what < due.length; what++) {
            Checks.same("count(" + what + ")", c.count(what), due[what]);
        }
    }

    /** 31 times it and each number, 64 bits, going round; in and out variables are among them. */
    private static void summing() {
        SoftController c = Checks.with("in byte k at 0; var long l[3]; out short o at 0; block b(byte p) { var long m[2] = 0x7fffffffffffffffL; } use b x, y; var word w;");
        c.input(0, 0x80);
        c.scan(1);
        c.poke(1, 0, Long.MAX_VALUE);
        c.poke(1, 1, Long.MIN_VALUE);
        c.poke(1, 2, -1);
        c.poke(2, 0, -2);
        c.poke(3, 0, -1);
        long due = 0;
        for (long number : new long[] {-128, Long.MAX_VALUE, Long.MIN_VALUE, -1, -2, 65535, 0, Long.MAX_VALUE, Long.MAX_VALUE, 0, Long.MAX_VALUE, Long.MAX_VALUE}) {
            due = 31 * due + number;
        }
        Checks.same("sum", c.sum(), due);
        Checks.same("sum of one", Checks.with("var int a = -5;").sum(), -5);
        Checks.same("sum of two", Checks.with("var int a = 1, b = 2;").sum(), 33);
    }

    private static void bench() {
        for (int kind : new int[] {LEAST, -1, 5, MOST}) {
            refused("cut", ARGUMENT, c -> c.cut(kind, 1));
            for (int op : new int[] {-1, 0, 3, 10, 11}) {
                refused("work", ARGUMENT, c -> c.work(op, kind, 0, 1, 0));
                refused("work by", ARGUMENT, c -> c.work(op, 0, kind, 1, 0));
            }
            for (int op : new int[] {-1, 0, 10, 16, 17}) {
                refused("tell", ARGUMENT, c -> c.tell(op, kind, 0, 1, 0));
                refused("tell by", ARGUMENT, c -> c.tell(op, 0, kind, 1, 0));
            }
        }
        for (int op : new int[] {LEAST, -1, 11, MOST}) {
            refused("work(" + op + ")", ARGUMENT, c -> c.work(op, 0, 0, 1, 0));
        }
        for (int op : new int[] {LEAST, -1, 17, MOST}) {
            refused("tell(" + op + ")", ARGUMENT, c -> c.tell(op, 0, 0, 1, 0));
        }
        // By a number that is 0 only when it is CUT.
        long[] zeros = {256, 65536, -65536, 1L << 32, 0};
        for (int right = 0; right < 5; right++) {
            int kind = right;
            refused("/ 0", ArithmeticException.class, c -> c.work(3, 4, kind, 1, zeros[kind]));
            refused("% 0", ArithmeticException.class, c -> c.work(4, 0, kind, 1, zeros[kind]));
        }
        SoftController c = rich();
        String before = Checks.state(c);
        c.cut(0, 300);
        c.work(0, 0, 0, 1, 2);
        c.tell(0, 0, 0, 1, 2);
        Checks.unchanged("the bench", c, before);
    }
}
