/** RUNNING (promises 6 and 13 to 17): TICKS, what is there at first, Places, loops, switches, blocks and functions at their edges. */
final class EdgesOfRunsTest {
    private static final String[] KINDS = {"byte", "short", "word", "int", "long"};
    private static final int[] BYTES = {1, 2, 2, 4, 8};
    private static final long[] LEAST = {-128, -32768, 0, Integer.MIN_VALUE, Long.MIN_VALUE};
    private static final long[] MOST = {127, 32767, 65535, Integer.MAX_VALUE, Long.MAX_VALUE};

    public static void main(String[] args) {
        longestCycle();
        everyCycle();
        stoppedTasks();
        numbersAtFirst();
        inVariables();
        outVariables();
        goingRound();
        bits();
        orderOfPlaces();
        loopsUpToTheMost();
        loopsAtTheirEnds();
        leavingLoops();
        nestedLoops();
        switches();
        blocks();
        functions();
        deepestFunctions();
        Checks.close("EdgesOfRunsTest");
    }

    /** The number E, brought to a NUMBER that may be of any KIND. */
    private static String literal(long v) {
        return v == Long.MIN_VALUE ? "0x8000000000000000L" : v + "L";
    }

    /** every 1000 after 999: run in the TICKS 999 and 1999 alone. */
    private static void longestCycle() {
        SoftController c = Checks.with("var int n, then[3]; task t every 1000 after 999 { then[n] = now; n++; } task u every 1000 { then[2] += now; }");
        int begun = 0;
        for (int n = 0; n < 40; n++) {
            begun += c.scan(50);
        }
        Checks.same("runs", begun, 4);
        Checks.same("the first", c.value(1, 0), 999);
        Checks.same("the second", c.value(1, 1), 1999);
        Checks.same("u at 0 and 1000", c.value(1, 2), 1000);
        Checks.same("the next TICK", c.count(5), 2000);
    }

    /** For which the TICK modulo its every is its after, 0 without; in the order of the text. */
    private static void everyCycle() {
        for (int every = 1; every <= 5; every++) {
            for (int after = 0; after < every; after++) {
                SoftController c = Checks.with("var int a, b; task t every " + every + " after " + after + " { a = a * 10 + 1; } task u every " + every
                        + " { a = a * 10 + 2; }");
                for (int tick = 0; tick < 12; tick++) {
                    c.poke(0, 0, 0);
                    boolean first = tick % every == after;
                    boolean second = tick % every == 0;
                    Checks.same("runs at " + tick, c.scan(1), (first ? 1 : 0) + (second ? 1 : 0));
                    Checks.same("their order", c.value(0, 0), first && second ? 12 : first ? 1 : second ? 2 : 0);
                }
            }
        }
        SoftController eight = Checks.with("var int a; task t0 every 1 { a = a * 10 + 1; } task t1 every 1 { a = a * 10 + 2; } task t2 every 1 { a = a * 10 + 3; }"
                + " task t3 every 1 { a = a * 10 + 4; } task t4 every 1 { a = a * 10 + 5; } task t5 every 1 { a = a * 10 + 6; }"
                + " task t6 every 1 { a = a * 10 + 7; } task t7 every 1 { a = a * 10 + 8; }");
        Checks.same("eight tasks", eight.scan(1), 8);
        Checks.same("in the order of the text", eight.value(0, 0), 12345678);
        Checks.same("50 TICKS", eight.scan(50), 400);
        Checks.same("the eighth", eight.task(7, 3), 51);
    }

    /** A task that FAULTS is begun, and STOPPED then; the others go on in that TICK. */
    private static void stoppedTasks() {
        SoftController c = Checks.with("var int a, b; task t every 1 { a++; fault 1; } task u every 1 { b++; } task v every 2 after 1 { fault 2; }");
        Checks.same("begun", c.scan(1), 2);
        Checks.same("the other one goes on", c.value(1, 0), 1);
        Checks.same("begun then", c.scan(3), 4);
        Checks.same("t was run once", c.value(0, 0), 1);
        Checks.same("two are STOPPED", c.count(6), 2);
        Checks.same("clear", c.clear(0), true);
        Checks.same("one is", c.count(6), 1);
        Checks.same("clear of what is not", c.clear(1), false);
        Checks.same("begun again", c.scan(2), 3);
        Checks.same("t was run twice", c.task(0, 3), 2);
        Checks.same("the TICK of its latest FAULT", c.task(0, 7), 4);
        Checks.same("that of v", c.task(2, 7), 1);
    }

    /** A variable has its Const at first, a row everywhere, or 0; so have locals of blocks, of each instance by itself. */
    private static void numbersAtFirst() {
        for (int kind = 0; kind < 5; kind++) {
            for (long v : new long[] {LEAST[kind], MOST[kind], 0, 1}) {
                SoftController c = Checks.with(("var K a = C, z, r[3] = C; keep K k = C; block b(K p) { var K m = C, n, s[2] = C; m++; } use b x, y;"
                        + " task t every 1 { x(1); }").replace("K", KINDS[kind]).replace("C", literal(v)));
                long[] due = {v, 0, v, v};
                for (int n = 0; n < 4; n++) {
                    Checks.same("variable " + n, c.value(n, 0), due[n]);
                }
                Checks.same("the row's last", c.value(2, 2), v);
                c.scan(1);
                long[] fields = {0, v, 0, v};
                for (int k = 0; k < 4; k++) {
                    Checks.same("y's " + k, c.field(1, k, 0), fields[k]);
                }
                Checks.same("y's last", c.field(1, 3, 1), v);
                Checks.same("x's m", c.field(0, 1, 0), c.cut(kind, v + 1));
                Checks.same("x's p", c.field(0, 0, 0), 1);
            }
        }
    }

    /** in variables have what is in the IMAGE, the highest byte first, at both ends of it. */
    private static void inVariables() {
        for (int kind = 0; kind < 5; kind++) {
            for (int at : new int[] {0, 1, 64 - BYTES[kind]}) {
                SoftController c = Checks.with("in " + KINDS[kind] + " v at " + at + "; var long seen; task t every 1 { seen = v; }");
                long last = 0;
                for (long v : new long[] {MOST[kind], LEAST[kind], -1, 0, 0x0102030405060708L}) {
                    for (int i = 0; i < BYTES[kind]; i++) {
                        c.input(at + i, (int) (v >> 8 * (BYTES[kind] - 1 - i)));
                    }
                    Checks.same("not ahead of the TICK", c.value(0, 0), last);
                    c.scan(1);
                    long due = c.cut(kind, v);
                    last = due;
                    Checks.same(KINDS[kind] + " at " + at, c.value(0, 0), due);
                    Checks.same("as the task sees it", c.value(1, 0), due);
                }
            }
        }
    }

    /** out variables too, and they change no byte besides their own. */
    private static void outVariables() {
        for (int kind = 0; kind < 5; kind++) {
            for (int at : new int[] {0, 1, 64 - BYTES[kind]}) {
                SoftController c = Checks.with("out " + KINDS[kind] + " v at " + at + "; var " + KINDS[kind] + " from; out long a at 0; out long z at 56;"
                        + " task t every 1 { a = 0x5555555555555555L; z = 0x5555555555555555L; v = from; }");
                for (long v : new long[] {LEAST[kind], MOST[kind], 0, 0x0102030405060708L}) {
                    c.poke(1, 0, v);
                    c.scan(1);
                    Checks.same(KINDS[kind] + " at " + at, c.value(0, 0), c.cut(kind, v));
                    for (int i = Math.max(0, at - 1); i < at + BYTES[kind] + 1 && i < 64; i++) {
                        boolean own = i >= at && i < at + BYTES[kind];
                        boolean filled = i < 8 || i >= 56;
                        int due = own ? (int) (v >> 8 * (at + BYTES[kind] - 1 - i)) & 255 : filled ? 0x55 : 0;
                        Checks.same("byte " + i, c.look(3, i), due);
                        Checks.same("of the FIELD", c.look(1, i), due);
                    }
                }
            }
        }
    }

    /** ++ at the most and -- at the least go round, wherever the number is. */
    private static void goingRound() {
        for (int kind = 0; kind < 5; kind++) {
            SoftController c = Checks.with(("var $K a = $H, r[2] = $H; out $K o at 0; block b($K p) { var $K m = $H, s[2] = $L; p++; m++; s[1]--; } use b x;"
                    + " func $K f($K p) { var $K l = $H; p--; l++; if p != $H { return 0; } return l; } var $K v, d = $L, w = $L;"
                    + " task t every 1 { a++; r[1]++; o = $H; o++; x($H); v = f($L); d--; w -= 1; }")
                    .replace("$K", KINDS[kind]).replace("$H", literal(MOST[kind])).replace("$L", literal(LEAST[kind])));
            c.scan(1);
            Checks.same("no FAULT", c.task(0, 5), 0);
            long[] due = {LEAST[kind], MOST[kind], LEAST[kind], LEAST[kind], MOST[kind], MOST[kind]};
            for (int n = 0; n < due.length; n++) {
                Checks.same(KINDS[kind] + " variable " + n, c.value(n, 0), due[n]);
            }
            Checks.same("r[1]", c.value(1, 1), LEAST[kind]);
            Checks.same("p", c.field(0, 0, 0), LEAST[kind]);
            Checks.same("m", c.field(0, 1, 0), LEAST[kind]);
            Checks.same("s[0]", c.field(0, 2, 0), LEAST[kind]);
            Checks.same("s[1]", c.field(0, 2, 1), MOST[kind]);
        }
    }

    /** The lowest and the highest bit of each KIND, set and cleared, by the lowest bit of E alone. */
    private static void bits() {
        for (int kind = 0; kind < 5; kind++) {
            int bits = 8 * BYTES[kind];
            for (int bit : new int[] {0, 1, bits - 2, bits - 1}) {
                for (long e : new long[] {0, 1, 2, 3, -1, -2, 1L << 32, (1L << 32) + 1, Long.MIN_VALUE, Long.MAX_VALUE}) {
                    for (long from : new long[] {0, -1, 0x5aa55aa55aa55aa5L}) {
                        SoftController c = Checks.with(("var K a, r[2]; out K o at 0; in K i at 0; var long e; var int seen, of; block b(K p) { var K m[2]; p.B = e; m[1].B = e; } use b x;"
                                + " task t every 1 { a.B = e; r[1].B = e; o.B = e; x(r[0]); seen = a.B * 10 + r[1].B * 100 + o.B; of = r[0].B; }")
                                .replace("K", KINDS[kind]).replace("B", "" + bit));
                        c.poke(0, 0, from);
                        c.poke(1, 0, from);
                        c.poke(1, 1, from);
                        c.poke(2, 0, from);
                        c.poke(4, 0, e);
                        c.scan(1);
                        long set = from & ~(1L << bit) | (e & 1) << bit;
                        long due = c.cut(kind, set);
                        Checks.same("bit " + bit + " of " + KINDS[kind], c.value(0, 0), due);
                        Checks.same("in a row", c.value(1, 1), due);
                        Checks.same("the place beside it", c.value(1, 0), c.cut(kind, from));
                        Checks.same("of an out variable", c.value(2, 0), due);
                        Checks.same("of a parameter", c.field(0, 0, 0), due);
                        Checks.same("of a local row", c.field(0, 1, 1), (e & 1) == 0 ? 0 : c.cut(kind, 1L << bit));
                        Checks.same("as it is seen", c.value(5, 0), 111 * (e & 1));
                        Checks.same("as it was", c.value(6, 0), from >> bit & 1);
                    }
                }
            }
        }
    }

    /** The index is worked and asked, then the number there taken, then E worked; of = and of a bit nothing is taken ahead. */
    private static void orderOfPlaces() {
        SoftController c = Checks.with("var int r[4] = 10, n, v = 10, b = 0; func int on(int i) { n = n * 10 + i; return i; }"
                + " func int all(int x) { r[1] = x; r[2] = x; v = x; b = 0x70; return 1; }"
                + " task t every 1 { r[on(1)] = on(2); r[on(1)] += on(3); r[on(2)] += all(50); v += all(60); b.0 = all(1); r[on(3)].0 = on(1); }");
        c.scan(1);
        Checks.same("in this order", c.value(1, 0), 1213231);
        Checks.same("r[1] by all", c.value(0, 1), 1);
        Checks.same("r[2], taken ahead of all, then set by all again", c.value(0, 2), 1);
        Checks.same("v", c.value(2, 0), 1);
        Checks.same("a bit comes to what is there then", c.value(3, 0), 0x71);
        Checks.same("r[3]", c.value(0, 3), 11);
        SoftController d = Checks.with("var int r[2] = 10, v = 10, i; func int all(int x) { r[0] = x; v = x; i = 1; return 1; }"
                + " task t every 1 { r[0] += all(50); v -= all(60); } task u every 1 { i = 0; r[i] = all(70); }");
        d.scan(1);
        Checks.same("r[0] of the task u", d.value(0, 0), 1);
        Checks.same("r[1]", d.value(0, 1), 10);
        Checks.same("v by u", d.value(1, 0), 70);
        SoftController e = Checks.with("var int r[2] = 10, v = 10; func int all(int x) { r[0] = x; v = x; return 1; } task t every 1 { r[0] += all(50); v -= all(60); }"
                + " task u every 1 { r[0] += all(7); }");
        e.scan(1);
        Checks.same("r[0]: 60 by all, taken ahead of all(7), 1 more", e.value(0, 0), 61);
        Checks.same("v by all(7)", e.value(1, 0), 7);
    }

    /** A for up to the most of its KIND ends there; NAME does not go round. */
    private static void loopsUpToTheMost() {
        for (int kind = 0; kind < 5; kind++) {
            String told = "var K i; var int n; ".replace("K", KINDS[kind]);
            for (long less = 0; less < 3; less++) {
                SoftController c = Checks.with(told + "task t every 1 { for i = " + literal(MOST[kind] - less) + " .. " + literal(MOST[kind]) + " { n++; } }");
                c.scan(1);
                Checks.same("rounds", c.value(1, 0), less + 1);
                Checks.same("it is over at the most", c.value(0, 0), MOST[kind]);
                Checks.same("no FAULT", c.task(0, 5), 0);
                SoftController d = Checks.with(told + "task t every 1 { for i = " + literal(LEAST[kind]) + " .. " + literal(LEAST[kind] + less) + " { n++; } }");
                d.scan(1);
                Checks.same("rounds from the least on", d.value(1, 0), less + 1);
                Checks.same("where it is over", d.value(0, 0), LEAST[kind] + less);
            }
            if (kind < 4) {
                // One above the most is never reached: NAME goes round until the watchdog stops it.
                SoftController w = Checks.with(told + "task t every 1 { for i = " + literal(MOST[kind] - 1) + " .. " + literal(MOST[kind] + 1)
                        + " { n++; if n == 4 { break; } } }");
                w.scan(1);
                Checks.same("it goes round", w.value(0, 0), LEAST[kind] + 1);
            }
        }
    }

    /** As long as NAME is not above; equal behind the Body is over; else 1 more. */
    private static void loopsAtTheirEnds() {
        SoftController c = Checks.with("var int i, n; task t every 1 { for i = 5 .. 4 { n++; } } task u every 1 { for i = 5 .. 5 { n += 10; } }"
                + " task v every 1 { for i = -2 .. -1 { n += 100; } } task w every 1 { for i = 0 .. 0x80000000 { n = 0; } }");
        c.scan(1);
        Checks.same("rounds", c.value(1, 0), 210);
        Checks.same("NAME has the first number without a round", c.value(0, 0), 0);
        // The Body changes NAME: up to the end exactly, beyond it, and below it.
        String[] bodies = {"i = 10;", "i = 11;", "i += 2;"};
        long[] rounds = {1, 1, 4};
        long[] ends = {10, 12, 13};
        for (int n = 0; n < bodies.length; n++) {
            SoftController d = Checks.with("var int i, n; task t every 1 { for i = 1 .. 10 { n++; " + bodies[n] + " } }");
            d.scan(1);
            Checks.same("rounds of " + bodies[n], d.value(1, 0), rounds[n]);
            Checks.same("NAME behind " + bodies[n], d.value(0, 0), ends[n]);
        }
        for (String body : new String[] {"i = 8;", "i = 9;", "i = 2147483647;"}) {
            // Below the end it begins anew; the most goes round and is below it then.
            SoftController d = Checks.with("var int i; task t every 1 { for i = 1 .. 10 { " + body + " } }");
            d.scan(1);
            Checks.same("it is never over: " + body, d.task(0, 5), 3);
        }
        // Both are WORKED: an end of a long beyond all ints, and a word against a number below 0.
        SoftController e = Checks.with("var byte b; var word w; var int n; task t every 1 { for b = 1 .. 0x100000000L { n++; if n > 300 { break; } } for w = 0 .. -1 { n = 0; } }");
        e.watchdog(5000);
        e.scan(1);
        Checks.same("a long as an end", e.value(2, 0), 301);
    }

    /** break leaves the innermost loop around, continue goes on behind its Body, through any ifs and switches. */
    private static void leavingLoops() {
        SoftController c = Checks.with("var int i, j, n, m; task t every 1 {"
                + " for i = 1 .. 3 { for j = 1 .. 3 { if j == 2 { switch i { case 2 { break; } default { continue; } } } n++; } m += 10 * j; }"
                + " i = 0; while i < 5 { i++; if i == 2 { continue; } switch i { case 4 { if 1 { break; } } } m++; } }");
        c.scan(1);
        Checks.same("inner rounds", c.value(2, 0), 2 + 1 + 2);
        Checks.same("where inner loops ended, and rounds of while", c.value(3, 0), 30 + 20 + 30 + 2);
        Checks.same("i", c.value(0, 0), 4);
        // continue in a for's last round ends it; return ends all.
        SoftController d = Checks.with("var int i, n; func int f(int m) { for i = 1 .. 5 { while 1 { if i == m { return i * 100; } break; } } return -1; }"
                + " block k(int m) { for i = 1 .. 5 { if i == m { return; } n++; } n += 1000; } use k x;"
                + " task t every 1 { for i = 1 .. 2 { continue; } n = f(3) + f(9); x(4); for i = 7 .. 9 { while 1 { return; } } n = 0; }");
        d.scan(1);
        Checks.same("n", d.value(1, 0), 300 - 1 + 3);
        Checks.same("the task's return", d.value(0, 0), 7);
    }

    /** Loops and switches within one another: each for has an end of its own, each break and continue a loop of its own. */
    private static void nestedLoops() {
        SoftController c = Checks.with("var int i, j, k, n; task t every 1 { for i = 1 .. 4 { for j = 1 .. 2 { for k = 1 .. 3 { n++; } n += 100; } n += 10000; } }");
        c.scan(1);
        Checks.same("rounds", c.value(3, 0), 4 * 10000 + 8 * 100 + 24);
        SoftController d = Checks.with("var int i, j, k, n; task t every 1 { for i = 1 .. 5 { if i == 2 { continue; } if i == 5 { break; } for j = 1 .. 3 { if j == 2 { continue; } n++; }"
                + " k = 0; while k < 4 { k++; if k == 2 { continue; } n += 100; } n += 10000; } }");
        d.scan(1);
        Checks.same("1, 3 and 4 in full", d.value(3, 0), 3 * 10000 + 9 * 100 + 3 * 2);
        Checks.same("left at 5", d.value(0, 0), 5);
        Checks.same("the inner one is over at its end", d.value(1, 0), 3);
        SoftController e = Checks.with("var int i, j, n; task t every 1 { for i = 1 .. 6 { switch i { case 2 { n++; } case 3, 4 { for j = 1 .. i { switch j { case 9 {} default { n += 10; } } } }"
                + " case 5 { switch n { default { n += 100; } } } default { n += 1000; } } switch i { case 1 { continue; } } n += 10000; } }");
        e.scan(1);
        Checks.same("switches in a for", e.value(2, 0), 1 + 70 + 100 + 2000 + 50000);
        Checks.same("its end", e.value(0, 0), 6);
        SoftController w = Checks.with("var int i, j, n; task t every 1 { while i < 3 { i++; for j = 1 .. 2 { if i == 2 { break; } n++; } switch i { case 1 .. 3 { n += 10; } } } }");
        w.scan(1);
        Checks.same("a for and a switch in a while", w.value(2, 0), 4 + 30);
    }

    /** The first case with a Label in which E's number lies, KINDS do not matter, else default; both ends belong to it. */
    private static void switches() {
        for (int kind = 0; kind < 5; kind++) {
            SoftController c = Checks.with(("var K v; var int n; task t every 1 { switch v { case L { n = 1; } case A .. B { n = 2; } case H { n = 3; }"
                    + " case 10 .. 20, 15, 30 { n = 4; } case 20 .. 25 { n = 5; } default { n = 6; } } }").replace("K", KINDS[kind])
                    .replace("case L", "case " + literal(LEAST[kind])).replace("A ..", literal(LEAST[kind] + 1) + " ..")
                    .replace(".. B", ".. " + literal(LEAST[kind] + 3)).replace("case H", "case " + literal(MOST[kind])));
            long[][] rows = {{LEAST[kind], 1}, {LEAST[kind] + 1, 2}, {LEAST[kind] + 3, 2}, {LEAST[kind] + 4, 6}, {MOST[kind], 3}, {MOST[kind] - 1, 6},
                {9, 6}, {10, 4}, {15, 4}, {20, 4}, {21, 5}, {25, 5}, {26, 6}, {30, 4}, {31, 6}};
            for (long[] row : rows) {
                c.poke(0, 0, row[0]);
                c.scan(1);
                Checks.same(KINDS[kind] + " " + row[0], c.value(1, 0), row[1]);
            }
        }
        SoftController d = Checks.with("var long v; var int n; task t every 1 { n = 0; switch v { case 0x8000000000000000L .. 9223372036854775807L { n = 1; } default { n = 2; } }"
                + " switch v { case 0xffffffff { n += 10; } case 4294967295L { n += 20; } } switch v { } switch v { default { n += 100; } } }");
        long[][] rows = {{Long.MIN_VALUE, 101}, {Long.MAX_VALUE, 101}, {0, 101}, {-1, 111}, {4294967295L, 121}};
        for (long[] row : rows) {
            d.poke(0, 0, row[0]);
            d.scan(1);
            Checks.same("switch " + row[0], d.value(1, 0), row[1]);
        }
        // E is worked once.
        SoftController e = Checks.with("var int n, k; func int f() { n++; return 3; } task t every 1 { switch f() { case 1 { k = 1; } case 2 { k = 2; } case 3 { k = 3; } } }");
        e.scan(1);
        Checks.same("once", e.value(0, 0), 1);
        Checks.same("case 3", e.value(1, 0), 3);
    }

    /** The E's are brought one by one as they are worked; numbers stay from call to call; each instance has its own. */
    private static void blocks() {
        SoftController c = Checks.with("block k(int p, int q) { var int n, seen; n++; seen = p * 10 + q; p = 100; } use k x, y; func int of() { return x.p; }"
                + " task t every 1 { x(1, x.p + 1); x(x.q + 1, x.p); x(of(), of()); y(5, 6); }");
        c.scan(1);
        // 1: p 1, q 2, then p 100. 2: p 3, q 3, then p 100. 3: p 100, q 100, then p 100.
        Checks.same("n of x", c.field(0, 2, 0), 3);
        Checks.same("seen of x", c.field(0, 3, 0), 1100);
        Checks.same("p of x", c.field(0, 0, 0), 100);
        Checks.same("q of x", c.field(0, 1, 0), 100);
        Checks.same("n of y", c.field(1, 2, 0), 1);
        Checks.same("seen of y", c.field(1, 3, 0), 56);
        c.scan(2);
        Checks.same("n of x then", c.field(0, 2, 0), 9);
        // An instance calls another one of a block told ahead, in its E's too.
        SoftController d = Checks.with("block k(int p) { var int n; n += p; } use k x; block l(int p) { var int n; x(p); n = x.n; x(x.n); } use l y; task t every 1 { y(3); }");
        d.scan(2);
        Checks.same("n of x", d.field(0, 1, 0), 18);
        Checks.same("n of y", d.field(1, 1, 0), 9);
    }

    /** All E's are worked, then the parameters have these, the locals their Consts; the value is CUT, 0 without return. */
    private static void functions() {
        for (int kind = 0; kind < 5; kind++) {
            for (long v : new long[] {LEAST[kind], MOST[kind], 0, 1}) {
                Checks.worked("func K f(K p) { return p; }".replace("K", KINDS[kind]), "f(" + literal(v) + ")", v);
                Checks.worked("func K f() { return C; }".replace("K", KINDS[kind]).replace("C", literal(v)), "f()", v);
                Checks.worked("func K f() { var K l = C; return l; }".replace("K", KINDS[kind]).replace("C", literal(v)), "f()", v);
            }
            Checks.worked("func K f() {}".replace("K", KINDS[kind]), "f()", 0);
            Checks.worked("func K f(int p) { if p { return 7; } }".replace("K", KINDS[kind]), "f(1) * 10 + f(0)", 70);
        }
        SoftController late = Checks.with("var int n = 5, m = 5; func int f() {} func long g(int p) { if p { return p; } } task t every 1 { n = f(); m = (int) g(0); }");
        for (int tick = 0; tick < 4; tick++) {
            late.poke(0, 0, 5);
            late.poke(1, 0, 5);
            late.scan(1);
            Checks.same("0 without a return, in every TICK", late.value(0, 0) + late.value(1, 0), 0);
        }
        Checks.worked("func int f(int a, int b, int c, int d, int e, int g) { return a * 100000 + b * 10000 + c * 1000 + d * 100 + e * 10 + g; }",
                "f(1, 2, 3, 4, 5, 6)", 123456);
        Checks.worked("func int f(int a, int b) { return a * 10 + b; }", "f(f(1, 2), f(3, f(4, 5)))", 195);
        Checks.worked("var int v; func int n() { v++; return v; } func int f(int a, int b, int c) { return a * 100 + b * 10 + c + v * 1000; }", "f(n(), n(), n())", 3123);
        // Locals and rows are anew in each call, and each call within another has its own.
        Checks.worked("func int f(int d) { var int r[3] = 5, l; r[1] += d; l++; if d { r[2] = f(d - 1); } return r[0] * 1000 + r[1] * 10 + l + r[2] * 0; }", "f(3) + f(0)", 5081 + 5051);
        Checks.worked("func int f(int d) { var int own; own = d * 2; if d { own = own + f(d - 1); } return own; }", "f(4)", 20);
    }

    /** Eight calls within one another, each with 100 numbers, and with operands that wait. */
    private static void deepestFunctions() {
        SoftController d = Checks.with("var int n, bad; func int f(int d) { var int r[99]; r[0] = d; r[98] = -d; if d < 8 { n += d + f(d + 1) * (r[0] + r[98] + 1); }"
                + " if r[0] != d || r[98] != -d || r[50] { bad++; } return 1; } task t every 1 { n += f(1); }");
        d.scan(1);
        Checks.same("no FAULT", d.task(0, 5), 0);
        Checks.same("none was written over", d.value(1, 0), 0);
        Checks.same("n, taken ahead of each call, comes to be there behind it", d.value(0, 0), 1);
    }
}
