/** Promises 6, 11, 12, 13: ticks, Stats and E's, WORK, and the FAULTS of runs. */
final class RunsTest {
    public static void main(String[] args) {
        ticks();
        expressions();
        assignments();
        loops();
        switches();
        blocks();
        functions();
        work();
        faults();
        watchdogPlaces();
        taskAnswers();
        Checks.close("RunsTest");
    }

    private static void ticks() {
        SoftController c = Checks.with("var int n, m, seen; task t every 3 after 2 { n++; seen = now; } task u every 2 { m = m * 10 + n; }");
        Checks.same("scan(2)", c.scan(2), 1);
        Checks.same("scan(1)", c.scan(1), 2);
        Checks.same("n", c.value(0, 0), 1);
        Checks.same("in the order of the text", c.value(1, 0), 1);
        Checks.same("now", c.value(2, 0), 2);
        Checks.same("scan(50)", c.scan(50), 16 + 25);
        Checks.same("the next TICK", c.count(5), 53);
        Checks.same("runs", c.task(0, 3), 17);
        Checks.same("now then", c.value(2, 0), 50);
        for (int n : new int[] {0, -1, 51, Integer.MIN_VALUE, Integer.MAX_VALUE}) {
            Checks.refused("scan(" + n + ")", IllegalArgumentException.class, () -> c.scan(n));
        }
        Checks.same("TICK after that", c.count(5), 53);
    }

    private static void expressions() {
        String told = "var byte b = -128; var short s = -2; var word w = 65535; var int i = -7; var long l = 0x100000000L;"
                + " var int r[3] = 4; func int f(int x) { r[0] = x; return 0; }";
        Object[][] rows = {
            {"1 + 2 * 3 - 4 / 3 % 5", 6L}, {"10 - 4 - 3", 3L}, {"100 / 10 / 5", 2L}, {"1 << 2 + 1", 8L}, {"1 | 2 ^ 3 & 5", 3L},
            {"1 || 0 && 0", 1L}, {"2 && 4", 1L}, {"0 || 8", 1L}, {"0 || 0", 0L}, {"1 == 2 < 3", 1L}, {"3 > 2 > 1", 0L},
            {"6 & 3 == 2", 0L}, {"1 ? 2 : 0 ? 3 : 4", 2L}, {"0 ? 2 : 0 ? 3 : 4", 4L}, {"-7 / 2", -3L}, {"-7 % 2", -1L},
            {"7 % -2", 1L}, {"0x80000000 / -1", -2147483648L}, {"0x80000000 % -1", 0L}, {"2147483647 + 1", -2147483648L},
            {"2147483647 + 1L", 2147483648L}, {"-0x80000000", -2147483648L}, {"- -5", 5L}, {"!5", 0L}, {"!0", 1L}, {"~0", -1L},
            {"~w", -65536L}, {"-b", 128L}, {"b + b", -256L}, {"w * w", -131071L}, {"s >>> 28", 15L}, {"s >> 1", -1L},
            {"b << 24", -2147483648L}, {"1 << 33", 2L}, {"1 << 33L", 2L}, {"1L << 33", 8589934592L}, {"l >>> 65", 2147483648L},
            {"1 << -1", -2147483648L}, {"w >> 8", 255L}, {"-1 >>> 1", 2147483647L}, {"-1L >>> 1", Long.MAX_VALUE},
            {"(byte) 200", -56L}, {"(word) -1", 65535L}, {"(short) w", -1L}, {"(int) l", 0L}, {"(long) b", -128L},
            {"(byte) 200 + 100", 44L}, {"-(byte) 128", 128L}, {"(byte)(word) -1", -1L}, {"l > i", 1L}, {"w > s", 1L},
            {"abs(0x80000000)", -2147483648L}, {"abs(b)", 128L}, {"abs(-5L)", 5L}, {"min(w, s)", -2L}, {"max(l, w)", 4294967296L},
            {"rol(0x80000001, 1)", 3L}, {"ror(1, 1)", -2147483648L}, {"rol(1, 33)", 2L}, {"rol(1L, 33)", 8589934592L},
            {"ror(5, 0)", 5L}, {"rev(1)", -2147483648L}, {"rev(2L)", 4611686018427387904L}, {"rev((byte) 1)", -2147483648L},
            {"ones(w)", 16L}, {"ones(s)", 31L}, {"ones(-1L)", 64L}, {"lead(0)", 32L}, {"lead(0L)", 64L}, {"lead(w)", 16L},
            {"lead(b)", 0L}, {"b.7", 1L}, {"b.6", 0L}, {"l.32", 1L}, {"w.15 + r[1].2", 2L}, {"'a' + ' '", 129L}, {"now", 0L},
            {"0 && f(9) || r[0]", 1L}, {"(0 && f(9)) + r[0]", 4L}, {"(1 || f(9)) + r[0]", 5L}, {"(1 && f(9)) + r[0]", 9L},
            {"(1 ? 0 : f(9)) + r[0]", 4L}, {"r[r[1] - 3] + r[(byte) 2]", 8L}, {"r[0] + f(3) + r[0]", 7L},
            {"0xffffffff", -1L}, {"0xffffffffL", 4294967295L}, {"0x09afAF90", 162508688L}, {"0xFEDCBA9876543210L", -81985529216486896L}, {"1 ? 0xffffffff : 0L", -1L}, {"i == -7L", 1L}, {"!l", 0L}};
        for (Object[] row : rows) {
            Checks.worked(told, (String) row[0], (Long) row[1]);
        }
    }

    private static void assignments() {
        SoftController c = Checks.with("var byte b = 120; var word w; var int i = 5, r[3], k; var long l;"
                + " func int step() { k++; return k; } func int seti(int x) { i = x; return 1; }"
                + " task t every 1 { b += 10; w--; w >>= 1; r[step()] = k * 100; r[step()] += step(); l = 1; l <<= 40;"
                + " i += seti(50); b.7 = 0; l.63 = 3; l.40 = 2; }");
        c.scan(1);
        Checks.same("b", c.value(0, 0), 2);
        Checks.same("w", c.value(1, 0), 32767);
        Checks.same("taken ahead of E", c.value(2, 0), 6);
        Checks.same("r[1]: the index ahead of E", c.value(3, 1), 100);
        Checks.same("r[2]", c.value(3, 2), 3);
        Checks.same("k: the index once", c.value(4, 0), 3);
        Checks.same("bits of l", c.value(5, 0), Long.MIN_VALUE);
        SoftController d = Checks.with("var int i = 8; func int seti() { i = 7; return 1; }"
                + " var int r[2] = 8; func int setr() { r[1] = 7; return 1; }"
                + " task t every 1 { i.3 = seti(); r[1].3 = setr(); }");
        d.scan(1);
        Checks.same("a bit comes to what is there behind E", d.value(0, 0), 15);
        Checks.same("in a row too", d.value(1, 1), 15);
        SoftController e = Checks.with("var byte b = -128; var word w = 1; var int i = -1; task t every 1 { b /= -1; w -= 2L; i >>>= 33; b++; }");
        e.scan(1);
        Checks.same("-128 / -1 in a byte, and 1 more", e.value(0, 0), -127);
        Checks.same("1 - 2 in a word", e.value(1, 0), 65535);
        Checks.same("-1 >>> 33 in an int", e.value(2, 0), 2147483647);
    }

    private static void loops() {
        SoftController c = Checks.with("var int i, n, m, k; var byte b; task t every 1 {"
                + " for i = 1 .. 5 { if i == 2 { continue; } if i == 4 { break; } n += i; }"
                + " for k = 3 .. 2 { n = 1000; }"
                + " while 1 { m++; if m < 5 { continue; } break; }"
                + " for b = 126 .. 127 { m += 10; } }");
        c.scan(1);
        Checks.same("i", c.value(0, 0), 4);
        Checks.same("n", c.value(1, 0), 4);
        Checks.same("m", c.value(2, 0), 25);
        Checks.same("for that is not begun", c.value(3, 0), 3);
        Checks.same("for ends at the end", c.value(4, 0), 127);
        SoftController d = Checks.with("var int i, n, e = 3; task t every 1 { for i = 0 .. e { e = 100; n++; i = i + 1; } }"
                + " task u every 1 { n += 100; for i = 0 .. 9 { i = 20; } n += i; for i = 5 .. 6L { for e = i .. 6 { n += 1000; } } }");
        d.scan(1);
        Checks.same("the end is worked once", d.value(1, 0), 3123);
        Checks.same("no FAULT", d.count(6), 0);
        SoftController w = Checks.with("var byte b; var int n; task t every 1 { for b = 0 .. 200 { n++; } }");
        w.watchdog(5000);
        w.scan(1);
        Checks.same("a byte is never above 200", w.task(0, 5), 3);
    }

    private static void switches() {
        SoftController c = Checks.with("var long l; var int n; task t every 1 { switch l {"
                + " case 5, 7 .. 9 { n = 1; } case 8, -3 .. -1 { n = 2; } case 0x100000000L { n = 3; } default { n = 4; } } }"
                + " task u every 1 { switch l { case 5 { n += 10; } } }");
        long[][] rows = {{5, 11}, {6, 4}, {7, 1}, {8, 1}, {9, 1}, {10, 4}, {-3, 2}, {-1, 2}, {0, 4}, {-4, 4}, {1L << 32, 3}};
        for (long[] row : rows) {
            c.poke(0, 0, row[0]);
            c.scan(1);
            Checks.same("switch " + row[0], c.value(1, 0), row[1]);
        }
    }

    private static void blocks() {
        SoftController c = Checks.with("var int out1, k; block count(int by, byte reset) { var int total = 100, seen[3] = 7;"
                + " if reset { total = 0; return; } total += by; seen[1] = total; }"
                + " use count a, b; func int f() { b(1, 0); return b.total; }"
                + " task t every 1 { a(5, 0); a(a.by + 1, 0); b(1, 0); out1 = a.total * 1000 + b.total; k = f(); }"
                + " task u every 2 after 1 { a(0, 1); a(a.reset, (byte) a.by); }");
        c.scan(1);
        Checks.same("of each instance by itself", c.value(0, 0), 111101);
        Checks.same("a function calls an instance", c.value(1, 0), 102);
        Checks.same("by", c.field(0, 0, 0), 6);
        Checks.same("reset", c.field(0, 1, 0), 0);
        Checks.same("total", c.field(0, 2, 0), 111);
        Checks.same("seen[0]", c.field(0, 3, 0), 7);
        Checks.same("seen[1]", c.field(1, 3, 1), 102);
        c.scan(1);
        // The first E is at by when the second one is worked.
        Checks.same("by, brought first", c.field(0, 0, 0), 1);
        Checks.same("reset, which sees it", c.field(0, 1, 0), 1);
        Checks.same("total is reset", c.field(0, 2, 0), 0);
        for (int[] k : new int[][] {{-1, 0, 0}, {2, 0, 0}, {0, -1, 0}, {0, 4, 0}, {0, 0, 1}, {0, 0, -1}, {0, 3, 3}}) {
            Checks.refused("field(" + k[0] + ", " + k[1] + ", " + k[2] + ")", java.util.NoSuchElementException.class,
                    () -> c.field(k[0], k[1], k[2]));
        }
    }

    private static void functions() {
        SoftController c = Checks.with("var int r, n, q; var long l; func int fact(int n) { var int own = 3; own++;"
                + " if n <= 1 { return own; } own = n * fact(n - 1); return own; }"
                + " func byte none(int x) { r = x; } func word two(int a, int b) { var int v[2] = 9; a = a * 10 + b; v[1]++; return (word) (a + v[1]); }"
                + " func long big(byte b) { if b < 0 { return -1; } return b; }"
                + " task t every 1 { q = fact(5); n = none(77) + two(r, none(3) + 1) + two(0, 0); l = big(-3) + big(4); }");
        c.scan(1);
        Checks.same("r", c.value(0, 0), 3);
        Checks.same("E's first, then parameters; locals anew", c.value(1, 0), 791);
        Checks.same("fact", c.value(2, 0), 480);
        Checks.same("long of a Const", c.value(3, 0), 3);
    }

    private static void work() {
        String told = "var int i, j, r[3]; var byte b; block k(int p, int q) { var int m[2]; p = q; } use k x;"
                + " func int f(int a, int c) { return a; } ";
        Checks.costs(told, "", 0);
        Checks.costs(told, "i = 1;", 2);
        Checks.costs(told, "i++; j--; r[i]++;", 4);
        Checks.costs(told, "i = -5;", 3);
        Checks.costs(told, "i = (((5)));", 2);
        Checks.costs(told, "i = (int) - ~ ! 'a';", 6);
        Checks.costs(told, "i = i + j * r[j].0;", 7);
        Checks.costs(told, "i += now;", 2);
        Checks.costs(told, "r[i + 1] = 2;", 5);
        Checks.costs(told, "r[1].3 = r[2].3;", 4);
        Checks.costs(told, "i = 1 ? 2 : 3;", 4);
        Checks.costs(told, "i = 0 && 1 && 1;", 4);
        Checks.costs(told, "i = 0 || 1 && 1;", 6);
        Checks.costs(told, "i = abs(1) + min(1, 2);", 7);
        Checks.costs(told, "i = f(1, 2);", 6);
        Checks.costs(told, "x(1, 2);", 6);
        Checks.costs(told, "i = x.p + x.m[1];", 5);
        Checks.costs(told, "if 0 { i = 1; } elif 0 { } elif 1 { i++; } else { i++; }", 5);
        Checks.costs(told, "if 0 { } else { i++; }", 3);
        Checks.costs(told, "while i < 2 { i++; }", 1 + 3 * 3 + 2 * 2);
        Checks.costs(told, "for i = 1 .. 3 { j++; }", 3 + 2 * 3);
        Checks.costs(told, "for i = 3 .. 1 { j++; }", 3);
        Checks.costs(told, "for i = 1 .. 3 { if i == 2 { break; } }", 3 + 2 * 5 + 1);
        Checks.costs(told, "for i = 1 .. 2 { continue; }", 3 + 4);
        Checks.costs(told, "switch 3 { case 1, 2, 3 .. 5 { i++; } default { } }", 3);
        Checks.costs(told, "return; i++;", 1);
        Checks.costs(told, "fault 3 + 4;", 4);
        Checks.costs(told, "i = 1 / (j * 0);", 6);
    }

    private static void faults() {
        String told = "var int i, z, r[3]; var byte b; block k(int p) { var int m[2]; } use k x; ";
        for (String stats : new String[] {"i = 5 @/ z;", "i = 5 @% z;", "i @/= z;", "i @%= z;", "r[0] @/= z;", "b @/= 0L;"}) {
            Checks.stops(1, told + "task t every 1 { i = 3; " + stats + " i = 9; }", 3000);
        }
        for (String stats : new String[] {"i = @r[3];", "i = @r[-1];", "@r[3] = 1;", "@r[z - 1]++;", "i = x.@m[2];", "@r[3].0 = i / z;",
            "@r[3] += i / z;", "i = r[@r[7]];"}) {
            SoftController c = Checks.stops(2, told + "task t every 1 { i = 3; " + stats + " i = 9; }", 3000);
            Checks.same("what was done stays", c.value(0, 0), 3);
        }
        SoftController c = Checks.stops(5, told + "task t every 1 { if 1 { @fault 0x500000007L; } }", 3000);
        Checks.same("the number told", c.task(0, 8), 7);
        Checks.stops(1, told + "task t every 1 { fault 5 @/ z; }", 3000);
        Checks.stops(1, told + "func int f(int a) { return 1 @/ a; } task t every 1 { i = f(z); }", 3000);
        // Eight calls within one another are fine.
        String deep = "var int i; func int f(int n) { if n == 1 { return 1; } return f(n - 1) + 1; } ";
        SoftController d = Checks.with(deep + "task t every 1 { i = f(8); }");
        d.scan(1);
        Checks.same("eight CALLS", d.value(0, 0), 8);
        Checks.stops(4, deep.replace("f(n - 1)", "@f(n - 1)") + "task t every 1 { i = f(9); }", 3000);
        SoftController e = Checks.stops(4, "var int i; block k(int p) { i = p; } use k x; func int f(int n) { if n == 0 { @x(77); } else {"
                + " n = f(n - 1); } return n; } task t every 1 { i = f(7); }", 3000);
        Checks.same("its E's are brought ahead of the FAULT", e.field(0, 0, 0), 77);
        Checks.same("but it is not called", e.value(0, 0), 0);
    }

    private static void watchdogPlaces() {
        String told = "var int i, j = 1, r[3]; block k(int p) { var int m[2]; p = 2; } use k x; func int f(int a) { return a; } ";
        String[] rows = {"@i = j;", "i = @j;", "i = j @+ 1;", "i = j + @1;", "i = j ? @1 : 2;", "i = j @? 1 : 2;", "i = @(byte) j;",
            "i = (byte) @j;", "i = @-j;", "i = @r[j];", "i = r[@j];", "i = @f(j);", "i = f(@j);", "@x(j);", "x(@j);", "@while j { j++; }",
            "while @j { j++; }", "for i = @1 .. 2 { }", "for i = 1 .. @2 { }", "@switch 1 { }", "i = x.@p;", "i = j @&& 1;", "@return;",
            "i = @now;", "i = @'a';", "r[@j]++;", "@fault 1;", "i = x.@m[j];"};
        int[] most = {0, 1, 2, 3, 3, 2, 1, 2, 1, 1, 2, 1, 2, 0, 2, 0, 1, 1, 2, 0, 1, 2, 0, 1, 1, 1, 0, 1};
        for (int n = 0; n < rows.length; n++) {
            SoftController c = Checks.stops(3, told + "task t every 1 { i++; " + rows[n] + " }", most[n] + 1);
            Checks.same("WORK stays in " + rows[n], c.task(0, 4), most[n] + 1);
        }
        Checks.stops(3, told + "task t every 1 { @while j { j++; } }", 2);
        Checks.stops(3, told + "task t every 1 { @for i = 1 .. 2 { j++; } }", 3);
        Checks.stops(3, told + "task t every 1 { @for i = 1 .. 2 { j++; } }", 5);
        SoftController c = Checks.stops(3, told + "task t every 1 { @x(j); }", 1);
        Checks.same("an instance's call costs 1 and 1", c.task(0, 4), 1);
        SoftController d = Checks.with(told + "task t every 1 { i = j; }");
        d.watchdog(2);
        d.scan(1);
        Checks.same("WORK may be the watchdog's number", d.task(0, 2), 0);
        for (int n : new int[] {0, -1, 5001, Integer.MIN_VALUE}) {
            Checks.refused("watchdog(" + n + ")", IllegalArgumentException.class, () -> d.watchdog(n));
        }
        Checks.same("the watchdog's number", d.count(10), 2);
        d.watchdog(5000);
        Checks.same("the watchdog's number then", d.count(10), 5000);
    }

    private static void taskAnswers() {
        SoftController c = Checks.with("var int n, z; task t every 3 after 1 { n++; if n == 2 { fault -9; } } task u every 1 { z = 1 / z; }");
        int[] fresh = {3, 1, 0, 0, 0, 0, 0, 0, 0};
        for (int what = 0; what < 9; what++) {
            Checks.same("task(0, " + what + ")", c.task(0, what), fresh[what]);
        }
        c.scan(5);
        int[] due = {3, 1, 1, 2, 8, 5, 56, 4, -9};
        for (int what = 0; what < 9; what++) {
            Checks.same("task(0, " + what + ") then", c.task(0, what), due[what]);
        }
        Checks.same("a STOPPED task is not run", c.task(1, 3), 1);
        Checks.same("FAULT 1 tells no number", c.task(1, 8), 0);
        Checks.same("STOPPED", c.count(6), 2);
        Checks.same("clear", c.clear(0), true);
        Checks.same("clear again", c.clear(0), false);
        Checks.same("STOPPED then", c.count(6), 1);
        c.scan(3);
        Checks.same("run again", c.task(0, 3), 3);
        Checks.same("the latest FAULT stays", c.task(0, 5), 5);
        Checks.same("its TICK stays", c.task(0, 7), 4);
        Checks.same("WORK of the latest run", c.task(0, 4), 5);
        for (int t : new int[] {-1, 2, Integer.MAX_VALUE}) {
            Checks.refused("task(" + t + ")", java.util.NoSuchElementException.class, () -> c.task(t, 99));
            Checks.refused("clear(" + t + ")", java.util.NoSuchElementException.class, () -> c.clear(t));
        }
        Checks.refused("task(0, 9)", IllegalArgumentException.class, () -> c.task(0, 9));
        Checks.refused("task(0, -1)", IllegalArgumentException.class, () -> c.task(0, -1));
    }
}
