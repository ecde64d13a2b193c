/** Promises 4 and 7: what a warm load keeps of every KIND and size, what it does not, and what the power leaves. */
final class EdgesOfReloadTest {
    private static final String[] KINDS = {"byte", "short", "word", "int", "long"};
    private static final long[] LEAST = {-128, -32768, 0, Integer.MIN_VALUE, Long.MIN_VALUE};
    private static final long[] MOST = {127, 32767, 65535, Integer.MAX_VALUE, Long.MAX_VALUE};

    /** Sound texts, each with something of its own that another one has not. */
    private static final String[] SOUND = {
        "",
        "var int a = 3, r[3] = 2; out byte o at 63; task t every 1 { a++; r[1] += a; o = (byte) a; if a == 6 { fault a; } } task u every 2 after 1 { a = a / (a - 7); }",
        "block k(byte p) { var int m[2] = 5; m[1] += p; while m[1] > 20 { m[1] -= 9; } }"
                + " use k x, y; in word a at 62; var long l; task t every 1 { x(1); y((byte) x.m[1]); l += y.m[1]; }",
        "func int f(int a, int b) { var int r[4] = 1, i; for i = 0 .. 3 { r[i] += a; if i == b { return r[i]; } } return f(a - 1, 2); } keep int a = 9;"
                + " var int q; task late every 3 after 2 { q = f(a, 5); } task now1 every 1 { switch q { case 1 .. 5, 7 { a++; } case 8 { a--; } default { a += 2; } } }",
        "var byte t; var word x; func long f() { return 5; } task k every 1 { t += 100; x -= 1; while t > 0 { t--; } } task l every 1 after 0 { fault f(); }"};
    /** Texts that are refused late, within a function, a block, a loop, a switch, an E. */
    private static final String[] REFUSED = {
        "var int zz = 5; #",
        "var int zz = 5; task t every 1 { while 1 { for zz = 1 .. 2 { break; continue; zz = qq; } } }",
        "func int f(int p) { var int m[9]; while 1 { switch p { case 1 { return f(1 + 2 * (3 || m)); } } } }",
        "block k(int p, int q) { var int m[9]; p = m[1] + q * (1 ? 2 : m[5L]); } use k zz;",
        "var byte aa[200], ab[200], ac; task t every 1 {}"};

    public static void main(String[] args) {
        kinds();
        sizes();
        otherThings();
        otherPlaces();
        fullMemory();
        faultsBetween();
        goneAndBack();
        tasksAndInstances();
        imagesAndTrace();
        power();
        powerBehindWarm();
        loadsInTurn();
        refusedWithin();
        loadsOfMuch();
        Checks.close("EdgesOfReloadTest");
    }

    /** CUT to the new KIND. */
    private static void kinds() {
        for (int from = 0; from < 5; from++) {
            for (int to = 0; to < 5; to++) {
                for (String how : new String[] {"var var", "var keep", "keep var", "keep keep"}) {
                    String[] hows = how.split(" ");
                    for (long v : new long[] {LEAST[from], MOST[from], 0, 1, LEAST[from] + 1}) {
                        SoftController c = Checks.with(hows[0] + " " + KINDS[from] + " a = 1;");
                        c.poke(0, 0, v);
                        Checks.same("load", Checks.load(c, hows[1] + " " + KINDS[to] + " a = 5;", true), 0);
                        Checks.same(KINDS[from] + " " + v + " to " + KINDS[to], c.value(0, 0), c.cut(to, v));
                        Checks.same("load cold", Checks.load(c, hows[0] + " " + KINDS[to] + " a = 5;", false), 0);
                        Checks.same("as at first", c.value(0, 0), 5);
                    }
                }
            }
        }
    }

    private static String row(int size) {
        return size == 0 ? "" : "[" + size + "]";
    }

    /** Place by place as far as both have them; what is no row has place 0. */
    private static void sizes() {
        int[] all = {0, 1, 2, 3, 100, 200};
        for (int old : all) {
            for (int size : all) {
                SoftController c = Checks.with("var int x = 9, a" + row(old) + " = 3, y = 9;");
                int had = Math.max(1, old);
                for (int i = 0; i < had; i++) {
                    c.poke(1, i, 1000 + i);
                }
                Checks.same("load", Checks.load(c, "var int a" + row(size) + " = 7, y = 1;", true), 0);
                int has = Math.max(1, size);
                for (int i = 0; i < has; i++) {
                    Checks.same("place " + i + " of " + size + ", once " + old, c.value(0, i), i < had ? 1000 + i : 7);
                }
                Checks.same("y", c.value(1, 0), 9);
            }
        }
    }

    /** Only a variable (no in, out) of that NAME has had a number; NAMES of other things have none. */
    private static void otherThings() {
        String[] olds = {"in int a at 0;", "out int a at 0;", "block a(int p) {}", "block k(int a) { var int b; } use k x;", "block k() {} use k a;",
            "func int a() {}", "func int f(int a) {}", "task a every 1 {}", "var int A = 5, aa = 5, b = 5, a_ = 5;"};
        for (String old : olds) {
            SoftController c = Checks.with(old);
            c.input(3, 77);
            c.force(true, 3, 255, 77);
            c.scan(1);
            Checks.same("load", Checks.load(c, "var int a = 3;", true), 0);
            Checks.same("a behind " + old, c.value(0, 0), 3);
        }
        // An in or out variable has what is in the IMAGE, whatever was of its NAME.
        SoftController c = Checks.with("var int a = 5; keep int b = 6; out int c at 4; task t every 1 { c = 8; }");
        c.input(3, 77);
        c.scan(1);
        Checks.same("load", Checks.load(c, "in int a at 0; out int b at 4; var int c = 9; in int d at 4;", true), 0);
        long[] due = {77, 8, 9, 0};
        for (int v = 0; v < 4; v++) {
            Checks.same("variable " + v, c.value(v, 0), due[v]);
        }
    }

    /** Variables that change their places among one another keep their own numbers. */
    private static void otherPlaces() {
        SoftController c = Checks.with("var int a, b, r[4], d; keep long e;");
        for (int v = 0; v < 5; v++) {
            c.poke(v, v == 2 ? 3 : 0, 10 + v);
        }
        Checks.same("load", Checks.load(c, "keep long d; var int n = 1, e, r[3] = 2, b; var byte q[7] = 4; var int r2, a;", true), 0);
        long[] due = {13, 1, 14, 0, 11, 4, 0, 10};
        for (int v = 0; v < due.length; v++) {
            Checks.same("variable " + v, c.value(v, 0), due[v]);
        }
        Checks.same("load again", Checks.load(c, "var int r[5] = 8, a, b, d, e;", true), 0);
        long[] then = {0, 10, 11, 13, 14};
        for (int v = 0; v < then.length; v++) {
            Checks.same("variable " + v + " then", c.value(v, 0), then[v]);
        }
        // Place 3 was lost with the row of 3.
        Checks.same("r[2]", c.value(0, 2), 0);
        Checks.same("r[3]", c.value(0, 3), 8);
    }

    /** All 2000 numbers are kept. */
    private static void fullMemory() {
        StringBuilder text = new StringBuilder();
        StringBuilder turned = new StringBuilder();
        for (int kind = 0; kind < 5; kind++) {
            text.append("var ").append(KINDS[kind]).append(" a").append(kind).append("[200], b").append(kind).append("[200] = ").append(kind).append(";");
            turned.insert(0, "keep " + KINDS[kind] + " b" + kind + "[200], a" + kind + "[200];");
        }
        String fill = "task t every 1 { for i = 0 .. 199 { a4[i] = i; b0[i] = (byte) i; } } ";
        String counter = text.toString().replace("var int a3[200]", "var int i, a3[199]");
        SoftController c = Checks.with(counter + fill);
        c.scan(1);
        Checks.same("no FAULT", c.task(0, 5), 0);
        Checks.same("load", Checks.load(c, turned.toString(), true), 0);
        // The order is turned: b4 a4 b3 a3 b2 a2 b1 a1 b0 a0.
        for (int i = 0; i < 200; i += 7) {
            Checks.same("a4", c.value(1, i), i);
            Checks.same("b0", c.value(8, i), (byte) i);
            Checks.same("b4", c.value(0, i), 4);
            Checks.same("b3", c.value(2, i), 3);
            Checks.same("a0", c.value(9, i), 0);
        }
    }

    /** A text that is refused is none of what has been: the numbers are those of what is loaded. */
    private static void faultsBetween() {
        SoftController c = Checks.with("var int a = 1, b = 2;");
        c.poke(0, 0, 50);
        for (String fault : new String[] {"var int a = 9; #", "var int a = 9, b = 8, c[", "var int a = 9, a;", "var int b = 7, a = 2147483648;",
            "var int b = 7; task t every 1 { b = a; }"}) {
            Checks.same("no FAULT", Checks.load(c, fault, true) == 0, false);
            Checks.same("variables", c.count(0), 2);
            Checks.same("a", c.value(0, 0), 50);
            Checks.same("b", c.value(1, 0), 2);
        }
        Checks.same("load", Checks.load(c, "var int b = 5, a = 5;", true), 0);
        Checks.same("b", c.value(0, 0), 2);
        Checks.same("a", c.value(1, 0), 50);
    }

    private static void goneAndBack() {
        SoftController c = Checks.with("var int a = 1;");
        c.poke(0, 0, 50);
        Checks.load(c, "var int b = 2;", true);
        Checks.load(c, "var int a = 3, b = 4;", true);
        Checks.same("a is new", c.value(0, 0), 3);
        Checks.same("b was there", c.value(1, 0), 2);
    }

    /** Tasks are not STOPPED, and all is told of them since they were loaded; instances as at first. */
    private static void tasksAndInstances() {
        String text = "var int n; block k(int p) { var int m = 4; m += p; } use k x; task t every 1 { n++; x(n); fault n; }";
        for (boolean warm : new boolean[] {false, true}) {
            SoftController c = Checks.with(text);
            c.scan(3);
            Checks.same("STOPPED", c.count(6), 1);
            Checks.same("load", Checks.load(c, text, warm), 0);
            Checks.same("not STOPPED", c.count(6), 0);
            for (int what = 2; what < 9; what++) {
                Checks.same("task(0, " + what + ")", c.task(0, what), 0);
            }
            Checks.same("p", c.field(0, 0, 0), 0);
            Checks.same("m", c.field(0, 1, 0), 4);
            Checks.same("n", c.value(0, 0), warm ? 1 : 0);
            Checks.same("TICK", c.count(5), warm ? 3 : 0);
            Checks.same("begun", c.scan(1), 1);
            Checks.same("the TICK of its FAULT", c.task(0, 7), warm ? 3 : 0);
            Checks.same("fault's number", c.task(0, 8), warm ? 2 : 1);
        }
        // Also when it is the third and fourth text, and one that was refused is between.
        for (boolean warm : new boolean[] {false, true}) {
            SoftController c = new SoftController();
            for (int n = 0; n < 5; n++) {
                Checks.same("load", Checks.load(c, text, warm), 0);
                for (int what = 2; what < 9; what++) {
                    Checks.same("task(0, " + what + ") of text " + n, c.task(0, what), 0);
                }
                c.scan(2);
                c.clear(0);
                c.scan(3);
                Checks.same("the TICK of its FAULT", c.task(0, 7), warm ? 5 * n + 2 : 2);
                Checks.same("refused", Checks.load(c, "var int zz; task zz every 1 {}", warm), 3);
            }
        }
        // The TICK goes on, so it is the new text's every that tells when.
        SoftController d = Checks.with("task t every 1 {}");
        d.scan(7);
        Checks.same("load", Checks.load(d, "var int seen; task u every 5 after 2 { seen = now; }", true), 0);
        Checks.same("TICK 7", d.scan(1), 1);
        Checks.same("now", d.value(0, 0), 7);
    }

    /** Warm: both IMAGES stay; else they are 0; the FIELD and forced bits stay; the TRACE is empty, and nothing traced. */
    private static void imagesAndTrace() {
        String text = "in byte k at 63; out byte o at 63; var int n; task t every 1 { o = k; n++; }";
        for (boolean warm : new boolean[] {false, true}) {
            SoftController c = Checks.with(text);
            c.input(63, 0x5a);
            c.force(false, 63, 1, 1);
            c.force(true, 63, 0x80, 0x80);
            c.trace(2, 0, true);
            c.scan(2);
            c.input(63, 0x11);
            c.poke(1, 0, 0x22);
            Checks.same("events", c.count(8), 2);
            Checks.same("load", Checks.load(c, text, warm), 0);
            int[] due = {0x11, 0xdb, warm ? 0x5b : 0, warm ? 0x22 : 0, 1, 0x80, 1, 0x80};
            for (int what = 0; what < 8; what++) {
                Checks.same("look(" + what + ", 63)", c.look(what, 63), due[what]);
            }
            Checks.same("k", c.value(0, 0), warm ? 0x5b : 0);
            Checks.same("o", c.value(1, 0), warm ? 0x22 : 0);
            Checks.same("traced", c.count(7), 0);
            Checks.same("events then", c.count(8), 0);
            c.scan(1);
            Checks.same("no event", c.count(8), 0);
            Checks.same("trace", c.trace(2, 0, true), true);
            c.scan(1);
            Checks.same("one event", c.count(8), 1);
        }
    }

    /** keep keeps its numbers, all others are as at first, of every KIND and in rows; instances too. */
    private static void power() {
        for (int kind = 0; kind < 5; kind++) {
            SoftController c = Checks.with(("keep K k = 3, kr[3] = 4; var K v = 5, vr[3] = 6; out K o at 8; in K i at 8; block b(K p) { var K m = 7, s[2]; p++; m++; s[1]--; } use b x;"
                    + " task t every 1 { o--; x(1); }").replace("K", KINDS[kind]));
            for (long value : new long[] {LEAST[kind], MOST[kind]}) {
                c.input(8, 1);
                for (int n = 0; n < 4; n++) {
                    c.poke(n, 0, value);
                    if (n % 2 == 1) {
                        c.poke(n, 2, value);
                    }
                }
                c.scan(1);
                c.power();
                long[] due = {value, value, 5, 6, 0, 0};
                for (int n = 0; n < due.length; n++) {
                    Checks.same("variable " + n, c.value(n, 0), due[n]);
                }
                Checks.same("kr[1]", c.value(1, 1), 4);
                Checks.same("kr[2]", c.value(1, 2), value);
                Checks.same("vr[2]", c.value(3, 2), 6);
                Checks.same("p", c.field(0, 0, 0), 0);
                Checks.same("m", c.field(0, 1, 0), 7);
                Checks.same("s[1]", c.field(0, 2, 1), 0);
                Checks.same("TICK", c.count(5), 0);
            }
        }
    }

    /** As at first is what the text tells that is loaded now, not what a warm load kept. */
    private static void powerBehindWarm() {
        SoftController c = Checks.with("var int a = 1; keep int b = 2;");
        c.poke(0, 0, 50);
        c.poke(1, 0, 60);
        Checks.same("load", Checks.load(c, "keep int a = 3; var int b = 4;", true), 0);
        Checks.same("a kept", c.value(0, 0), 50);
        Checks.same("b kept", c.value(1, 0), 60);
        c.power();
        Checks.same("a is kept now", c.value(0, 0), 50);
        Checks.same("b is as at first", c.value(1, 0), 4);
    }

    /** Whatever was loaded, or refused, ahead of it: a text that is loaded cold runs as in a new object. */
    private static void loadsInTurn() {
        for (String refused : REFUSED) {
            Checks.same("sound: " + refused, Checks.load(new SoftController(), refused, true) == 0, false);
        }
        for (String one : SOUND) {
            for (String two : SOUND) {
                for (String refused : REFUSED) {
                    for (String last : SOUND) {
                        runsAsNew(new String[] {one, two, refused}, last);
                    }
                }
            }
        }
    }

    private static void runsAsNew(String[] ahead, String last) {
        SoftController c = new SoftController();
        for (String text : ahead) {
            Checks.load(c, text, true);
            c.scan(9);
        }
        SoftController fresh = Checks.with(last);
        Checks.same("load of " + last, Checks.load(c, last, false), 0);
        for (int n = 0; n < 2; n++) {
            c.scan(4);
            fresh.scan(4);
            Checks.unchanged("behind " + ahead[0] + " and " + ahead[1], c, Checks.state(fresh));
        }
    }

    /** What was OPEN, waiting, told or a loop where a text was refused is none of the next text's. */
    private static void refusedWithin() {
        String deepest = "var int y; task t every 1 { y = " + "(".repeat(23) + "1" + ")".repeat(23) + "; }";
        SoftController c = new SoftController();
        for (String open : new String[] {"task t every 1 { if 1 { y = ((( #", "task t every 1 { y = - - - - ;", "task t every 1 { y = 1 ? 2 ? ", "block k(int p) { x[(int) ("}) {
            Checks.same("refused", Checks.load(c, open, false) == 0, false);
            Checks.same("23 brackets", Checks.load(c, deepest, false), 0);
        }
        SoftController d = new SoftController();
        for (String word : new String[] {"break", "continue"}) {
            Checks.same("refused", Checks.load(d, "task t every 1 { while 1 { while 1 { q = 1; } } }", false), 3);
            Checks.same(word + " in no loop", Checks.load(d, "task t every 1 { " + word + "; }", false), 3);
            Checks.same("its place", d.place(), 17);
            Checks.same("refused", Checks.load(d, "func int f() { while 1 { q = 1; } }", false), 3);
            Checks.same("return in no function", Checks.load(d, "task t every 1 { return 1; }", false), 3);
            Checks.same("no parameter", Checks.load(d, "block b(int p) { q = 1; }", false), 3);
            Checks.same("p is not told", Checks.load(d, "task t every 1 { p = 1; }", false), 3);
        }
        SoftController e = new SoftController();
        for (int n = 0; n < 30; n++) {
            Checks.same("refused", Checks.load(e, "task t every 1 { fault 0||1&&0|0^1&0==2<1<<1+1*q; }", false), 3);
        }
        Checks.same("load", Checks.load(e, "var int v; task t every 1 { v = 1 + 2 * 3 - (4 << 1 | 1); }", false), 0);
        e.scan(1);
        Checks.same("1 + 6 - 9", e.value(0, 0), -2);
    }

    /** Texts with as much as there may be, one behind another on one object. */
    private static void loadsOfMuch() {
        SoftController c = new SoftController();
        String stats = "var int x; task t every 1 { " + "x++;".repeat(496) + "}";
        for (int n = 1; n <= 4; n++) {
            Checks.same("load of 496 Stats", Checks.load(c, stats, n % 2 == 0), 0);
            c.scan(1);
            Checks.same("all are done", c.value(0, 0), n % 2 == 0 ? 992 : 496);
        }
        SoftController d = new SoftController();
        String labels = "var int x = 7; task t every 1 { switch x { case " + "2,".repeat(700) + "7 { x = 5; } } }";
        for (int n = 1; n <= 4; n++) {
            Checks.same("load of 701 Labels", Checks.load(d, labels, false), 0);
            d.scan(1);
            Checks.same("the last one", d.value(0, 0), 5);
        }
        SoftController e = new SoftController();
        for (int n = 1; n <= 30; n++) {
            Checks.same("load of 400 longs", Checks.load(e, "var long a[200] = " + n + ", b[200] = -" + n + ";", false), 0);
            Checks.same("the first", e.value(0, 0), n);
            Checks.same("the last", e.value(1, 199), -n);
        }
        SoftController f = new SoftController();
        for (int n = 1; n <= 12; n++) {
            Checks.same("refused", Checks.load(f, "var int a[200], b[200] = 3, c;", true), 5);
            Checks.same("load", Checks.load(f, "var int a[200] = 1, b[200] = 2;", true), 0);
            Checks.same("b[199]", f.value(1, 199), 2);
        }
    }
}
