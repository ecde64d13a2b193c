/** FAULT 5 (promises 4 and 5): the last that is sound, the first that is not; and which of several FAULTS is FOUND. */
final class EdgesOfBoundsTest {
    private static final String[] KINDS = {"byte", "short", "word", "int", "long"};
    private static final int[] BYTES = {1, 2, 2, 4, 8};
    private static final long[] LEAST = {-128, -32768, 0, Integer.MIN_VALUE, Long.MIN_VALUE};
    private static final long[] MOST = {127, 32767, 65535, Integer.MAX_VALUE, Long.MAX_VALUE};

    public static void main(String[] args) {
        constants();
        rows();
        placesAt();
        cycles();
        bits();
        labels();
        names();
        sorts();
        parameters();
        numbersOfAKind();
        numbersOfInstances();
        numbersOfARoutine();
        leastOfOneToken();
        asItIsComeTo();
        behindItsParts();
        Checks.close("EdgesOfBoundsTest");
    }

    private static void judged(boolean sound, String text) {
        if (sound) {
            Checks.sound(text.replace("@", ""));
        } else {
            Checks.fault(5, text);
        }
    }

    private static String many(int n, String one) {
        StringBuilder all = new StringBuilder();
        for (int i = 0; i < n; i++) {
            all.append(one.replace("#", "" + i));
        }
        return all.toString();
    }

    /** A Const with an @ ahead of its NUMBER, not of its - . */
    private static String marked(long v) {
        if (v == Long.MIN_VALUE) {
            return "@0x8000000000000000L";
        }
        return v < 0 ? "-@" + -v + "L" : "@" + v + "L";
    }

    /** A Const that its variable's KIND can't have, at its NUMBER. */
    private static void constants() {
        for (int kind = 0; kind < 5; kind++) {
            for (int of = 0; of < 5; of++) {
                for (long v : new long[] {LEAST[of], MOST[of], LEAST[of] - 1, MOST[of] + 1, 0, 1, -1}) {
                    boolean fits = v >= LEAST[kind] && v <= MOST[kind];
                    judged(fits, "var " + KINDS[kind] + " a = " + marked(v) + ";");
                    judged(fits, "keep " + KINDS[kind] + " b, a[3] = " + marked(v) + ", c;");
                    judged(fits, "block k() { var " + KINDS[kind] + " a = " + marked(v) + "; }");
                    judged(fits, "func int f(int p) { var " + KINDS[kind] + " a[2] = " + marked(v) + "; }");
                    if (fits) {
                        SoftController c = Checks.with(("var " + KINDS[kind] + " a[2] = " + marked(v) + ";").replace("@", ""));
                        Checks.same("its number", c.value(0, 1), v);
                    }
                }
            }
        }
        judged(false, "var word a = -@'a';");
        judged(true, "var byte a = -@'~';");
        judged(false, "var word a = @0xffffffff;");
        judged(true, "var byte a = @0xffffff80;");
        judged(false, "var byte a = @0xffffff7f;");
        judged(true, "var int a = -@0x80000000;");
        judged(false, "var int a = @0x80000000L;");
        judged(true, "var int a = -@0x80000000L;");
    }

    /** A row of not 1 .. 200. */
    private static void rows() {
        for (String kind : KINDS) {
            for (String n : new String[] {"0", "201", "0x0", "0xc9", "0xffffffff", "0x80000000", "0L", "201L", "4294967297L", "2147483648",
                "9223372036854775808L", "0xffffffffffffffffL", "1000000000"}) {
                Checks.fault(5, "var " + kind + " a[@" + n + "];");
                Checks.fault(5, "func int f() { var " + kind + " a[@" + n + "]; }");
            }
            for (String n : new String[] {"1", "2", "199", "200", "0xc8", "200L", "001", "0x1L"}) {
                Checks.sound("keep " + kind + " a[" + n + "];");
            }
        }
        SoftController c = Checks.with("var int a[200], b[1];");
        Checks.same("200 numbers", c.variable(0, 1), 200);
        Checks.same("a row of 1", c.variable(1, 1), 1);
        Checks.same("it is a row", c.variable(1, 3), 1);
    }

    /** A place at behind which not all bytes of the KIND are in 0 .. 63. */
    private static void placesAt() {
        for (int kind = 0; kind < 5; kind++) {
            for (String way : new String[] {"in ", "out "}) {
                for (int at = 0; at < 70; at++) {
                    judged(at + BYTES[kind] <= 64, way + KINDS[kind] + " a at @" + at + ";");
                }
                judged(true, way + KINDS[kind] + " a at @" + (64 - BYTES[kind]) + "L;");
                for (String at : new String[] {"0xffffffff", "0x80000000", "2147483647", "2147483648", "0xffffffffffffffffL", "4294967296L"}) {
                    judged(false, way + KINDS[kind] + " a at @" + at + ";");
                }
            }
        }
    }

    /** every not 1 .. 1000, after not 0 .. that less 1. */
    private static void cycles() {
        for (String every : new String[] {"0", "1001", "0xffffffff", "2147483647", "2147483648", "4294967297L", "0L"}) {
            Checks.fault(5, "task t every @" + every + " {}");
            Checks.fault(5, "task t every @" + every + " after 5000 { q = 1; }");
        }
        for (int every : new int[] {1, 2, 3, 999, 1000}) {
            Checks.sound("task t every " + every + " {} task u every " + every + "L {}");
            for (int after : new int[] {0, every - 1, every, every + 1, 1000, 1001}) {
                judged(after < every, "task t every " + every + " after @" + after + " {}");
            }
            Checks.fault(5, "task t every " + every + " after @0xffffffff {}");
            Checks.fault(5, "task t every " + every + " after @4294967296L {}");
        }
    }

    /** A bit that the KIND hasn't, at the number, on the left and in an E. */
    private static void bits() {
        for (int kind = 0; kind < 5; kind++) {
            String told = "var K v, r[2]; in K c at 0; out K o at 0; ".replace("K", KINDS[kind]);
            for (int bit = 0; bit <= 66; bit++) {
                boolean has = bit < 8 * BYTES[kind];
                for (String stat : new String[] {"v.@B = 1;", "r[1].@B = 1;", "o.@B = 1;", "fault v.@B;", "fault r[0].@B;", "fault c.@B;"}) {
                    judged(has, told + "task t every 1 { " + stat.replace("B", "" + bit) + " }");
                }
            }
            for (String bit : new String[] {"0xffffffff", "2147483648", "4294967296L", "0x100000000L"}) {
                judged(false, told + "task t every 1 { fault v.@" + bit + "; }");
            }
            judged(true, told + "task t every 1 { v.@7L = 1; v.0x7 = 0; }");
            judged(false, "block k(" + KINDS[kind] + " p) { p.@" + 8 * BYTES[kind] + " = 1; }");
        }
    }

    /** A Label whose first number is above its second one, at the second Const's first token. */
    private static void labels() {
        String task = "task t every 1 { switch 1 { case ";
        for (String sound : new String[] {"1 .. 1", "-1 .. -1", "-2 .. -1", "0 .. 2147483647", "0x80000000 .. 2147483647", "-1 .. 1L", "1L .. 1",
            "0x8000000000000000L .. 9223372036854775807L", "'a' .. 'b'", "-'b' .. -'a'", "0xffffffff .. 0"}) {
            Checks.sound(task + sound + " {} } }");
            Checks.sound(task + "5, " + sound + ", 7 {} } }");
        }
        for (String fault : new String[] {"2 .. @1", "-1 .. @-2", "1 .. @-1", "0 .. @0xffffffff", "2147483648L .. @2147483647", "'b' .. @'a'",
            "9223372036854775807L .. @0x8000000000000000L", "-'a' .. @-'b'", "1 .. @- // a note\n 1"}) {
            Checks.fault(5, task + fault + " {} } }");
            Checks.fault(5, task + "5, 3 .. 4, " + fault + " {} } }");
        }
        Checks.fault(5, task + "@2147483648 .. 1 {} } }");
        Checks.fault(5, task + "-@2147483648 .. 1 {} } }");
        Checks.fault(5, task + "5 .. -@2147483648 {} } }");
        // Labels may lie over one another: KINDS and order do not matter.
        Checks.sound(task + "1, 1, 0 .. 5 {} case 1 {} case 3 .. 9 {} } }");
    }

    /** More than 160 NAMES told, locals and parameters too, of whatever sort the last one is. */
    private static void names() {
        String[] tellings = {"var byte @z;", "keep byte @z;", "in byte @z at 0;", "out byte @z at 0;", "block @z() {}", "func int @z() {}",
            "task @z every 1 {}"};
        for (String telling : tellings) {
            judged(true, many(159, "in byte v# at 0;") + telling);
            judged(false, many(160, "in byte v# at 0;") + telling);
        }
        for (String head : new String[] {"block k", "func int k"}) {
            judged(true, many(158, "in byte v# at 0;") + head + "(int @z) {}");
            judged(false, many(159, "in byte v# at 0;") + head + "(int @z) {}");
            judged(true, many(158, "in byte v# at 0;") + head + "() { var int @z; }");
            judged(false, many(159, "in byte v# at 0;") + head + "() { var int @z; }");
            judged(false, many(100, "in byte v# at 0;") + head + "() { var int l0" + many(58, ",m#") + ", @z; }");
        }
        judged(true, "block k(int p) {}" + many(157, "in byte v# at 0;") + "use k @z;");
        judged(false, "block k(int p) {}" + many(158, "in byte v# at 0;") + "use k @z;");
        // Each instance is one NAME; what is in its block counts once.
        Checks.sound("block k(int p, int q) { var int m; }" + many(135, "in byte v# at 0;") + "use k x0" + many(20, ",y#") + ";");
        Checks.same("160 variables", Checks.with(many(160, "in byte v# at 0;")).count(0), 160);
        // A text that is refused counts for nothing in the next one.
        SoftController c = new SoftController();
        Checks.same("161 NAMES", Checks.load(c, many(161, "in byte v# at 0;"), false), 5);
        Checks.same("160 NAMES", Checks.load(c, many(160, "in byte v# at 0;"), false), 0);
        Checks.same("160 NAMES again", Checks.load(c, many(160, "in byte v# at 0;"), true), 0);
    }

    /** More than 8 blocks, 24 instances, 16 functions, 8 tasks, at the NAME. */
    private static void sorts() {
        String[] tellings = {"block n#() {}", "func int n#() {}", "task n# every 1 {}"};
        int[] most = {8, 16, 8};
        int[] sorts = {3, 4, 2};
        for (int s = 0; s < tellings.length; s++) {
            SoftController c = Checks.with(many(most[s], tellings[s]));
            Checks.same("as many as may be", c.count(sorts[s]), most[s]);
            Checks.fault(5, many(most[s], tellings[s]) + tellings[s].replace("n#", "@z"));
            Checks.fault(3, many(most[s], tellings[s]) + tellings[s].replace("n#", "@n0"));
        }
        String block = "block k() {} block l() {} ";
        Checks.same("24 instances", Checks.with(block + "use k a" + many(11, ",x#") + "; use l b" + many(11, ",y#") + ";").count(1), 24);
        Checks.fault(5, block + "use k a" + many(11, ",x#") + "; use l b" + many(11, ",y#") + ",@z;");
        Checks.fault(5, block + "use k a" + many(23, ",x#") + "; use l @z;");
        Checks.fault(3, block + "use k a" + many(23, ",x#") + "; use l @a;");
        Checks.fault(3, block + "use k a" + many(23, ",x#") + "; use @m z;");
    }

    /** More than 6 parameters; how many locals there are does not matter to that. */
    private static void parameters() {
        for (String head : new String[] {"block k", "func int k"}) {
            Checks.sound(head + "(byte p" + many(5, ", long p#") + ") { var int l" + many(20, ", l#") + "; }");
            Checks.fault(5, head + "(byte p" + many(5, ", long p#") + ", int @z) {}");
            Checks.fault(5, head + "(byte p" + many(5, ", long p#") + ", int @z, int y, int y) { q = 1; }");
            Checks.fault(3, head + "(byte p" + many(5, ", long p#") + ", int @p) {}");
        }
    }

    /** More than 400 numbers of a KIND, at the NAME; rows count with all of theirs, in and out not at all. */
    private static void numbersOfAKind() {
        for (int kind = 0; kind < 5; kind++) {
            String k = KINDS[kind];
            String other = KINDS[(kind + 1) % 5];
            String full = "var " + k + " a[200]; keep " + k + " b[200]; ";
            String nearly = "var " + k + " a[200]; keep " + k + " b[199]; ";
            Checks.sound(full + "in " + k + " c at 0; out " + k + " d at 0; var " + other + " e[200], f[200];");
            Checks.sound(full + "func int g() { var " + k + " h[100]; } block i() { var " + k + " j[100]; }");
            Checks.fault(5, full + "var " + k + " @c;");
            Checks.fault(5, full + "keep " + k + " @c[1];");
            Checks.fault(5, full + "var " + other + " e; var " + k + " @c = 1, d = 1000L;");
            Checks.sound(nearly + "var " + k + " c;");
            Checks.sound(nearly + "keep " + k + " c[1];");
            Checks.fault(5, nearly + "var " + k + " @c[2];");
            Checks.fault(5, nearly + "var " + k + " c, @d;");
            Checks.fault(5, "var " + k + " a, b[200], @c[200];");
            Checks.sound("var " + k + " a, b[199], c[200];");
        }
    }

    /** An instance counts with all of its block's parameters and locals, of every KIND. */
    private static void numbersOfInstances() {
        for (String k : KINDS) {
            String block = "block k(" + k + " p) { var " + k + " m[98], n; } ";
            Checks.sound(block + "use k a, b, c, d;");
            Checks.fault(5, block + "use k a, b, c, d, @e;");
            Checks.sound(block + "use k a, b, c; var " + k + " v[100];");
            Checks.fault(5, block + "use k a, b, c; var " + k + " @v[101];");
            Checks.fault(5, block + "var " + k + " v[101]; use k a, b, @c;");
            Checks.fault(5, "block k(" + k + " p) {} var " + k + " a[200], b[199]; use k x, @y, z;");
            Checks.sound("block k() {} var " + k + " a[200], b[200]; use k x, y;");
        }
        Checks.fault(5, "block k(byte p, short q) { var word m; var int n; var long o; } var long a[200], b[200]; use k @x;");
        Checks.sound("block k(byte p, short q) { var word m; var int n; var long o; } var long a[200], b[199]; use k x;");
        Checks.fault(5, "block k(byte p, short q) { var word m; var int n; var long o; } var byte a[200], b[200]; use k @x;");
        Checks.fault(5, "block k(byte p, short q) { var word m; var int n; var long o; } var word a[200], b[200]; use k @x;");
    }

    /** A parameter or local with which its block or function has more than 100 numbers of all KINDS, at the NAME. */
    private static void numbersOfARoutine() {
        for (String head : new String[] {"block k", "func int k"}) {
            Checks.sound(head + "() { var byte a[100]; }");
            Checks.fault(5, head + "() { var byte @a[101]; }");
            Checks.sound(head + "(int p, int q) { var byte a[20]; var short b[20]; var word c[20]; var int d[20]; var long e[18]; }");
            Checks.fault(5, head + "(int p, int q) { var byte a[20]; var short b[20]; var word c[20]; var int d[20]; var long e[18], @f; }");
            Checks.fault(5, head + "(int p, int q) { var byte a[20]; var short b[20]; var word c[20]; var int d[20]; var long @e[19]; }");
            Checks.fault(5, head + "(int p) { var byte a[99]; var long @b = 5; q = 1; }");
            Checks.fault(5, head + "(int p) { var byte a[99]; var long b = @9223372036854775808L; }");
            // Each block or function by itself.
            Checks.sound(head + "() { var byte a[100]; } block l() { var byte a[100]; } func int m() { var byte a[100]; }");
        }
    }

    /** Of one token the least number. */
    private static void leastOfOneToken() {
        Checks.fault(3, many(160, "in byte v# at 0;") + "var int @v0;");
        Checks.fault(3, many(160, "in byte v# at 0;") + "var int @abs;");
        Checks.fault(3, many(8, "task t# every 1 {}") + "task @t3 every 1 {}");
        Checks.fault(3, "var byte a[200], b[200]; var byte @a;");
        Checks.fault(3, "func int f() { var byte a[100], @a; }");
        Checks.fault(3, "var int r[2]; task t every 1 { @q[0].99 = 1; }");
        Checks.fault(4, "var int r[2]; task t every 1 { @r.99 = 1; }");
        Checks.fault(3, "block k() {} task t every 1 { fault @k; }");
        Checks.fault(5, "var int r[@2147483648];");
        // The = of TOO WIDE is found behind its E, so a NUMBER that is too great comes ahead of it.
        Checks.fault(5, "var byte a; task t every 1 { a = @2147483648; }");
        Checks.fault(4, "var byte a; task t every 1 { a @= 2147483647; }");
    }

    /** At a token as that is come to: the first one FOUND, not the least number. */
    private static void asItIsComeTo() {
        Checks.fault(5, "var int a[@0]; var int a;");
        Checks.fault(3, "var int a, @a; var int b[0];");
        Checks.fault(5, "var byte a = @128, a;");
        Checks.fault(5, "task t every @0 { q = 1; }");
        Checks.fault(5, "task t every 5 after @5 { q = 1; }");
        Checks.fault(3, "task t every 5 after 4 { @q = 1; }");
        Checks.fault(4, "var int r[2]; task t every 1 { @r = q; }");
        Checks.fault(3, "var int r[2]; task t every 1 { r[@q] = 2147483648; }");
        Checks.fault(5, "var int r[2]; task t every 1 { r[@2147483648] = q; }");
        Checks.fault(5, "var int r[2]; task t every 1 { r[0].@32 += q; }");
        Checks.fault(4, "var int r[2]; task t every 1 { r[0].31 @+= q; }");
        Checks.fault(4, "var int v; task t every 1 { @v[q] = 1; }");
        Checks.fault(3, "var int v; task t every 1 { fault v + @q + 2147483648; }");
        Checks.fault(5, "var int v; task t every 1 { fault v + @2147483648 + q; }");
        Checks.fault(3, "task t every 1 { switch @q { case 2 .. 1 {} } }");
        Checks.fault(5, "task t every 1 { switch 1 { case 2 .. @1 { q = 1; } } }");
        Checks.fault(3, "task t every 1 { switch 1 { case 1 { @q = 1; } case 2 .. 1 {} } }");
        Checks.fault(3, "task t every 1 { @break; q = 1; }");
        Checks.fault(3, "task t every 1 { @return q; }");
        Checks.fault(3, "block k(int p) { var int m[2]; } use k x; task t every 1 { fault x.@q[2147483648]; }");
        Checks.fault(4, "block k(int p) { var int m[2]; } use k x; task t every 1 { fault x.@m + 2147483648; }");
        Checks.fault(5, "block k(int p) { var int m[2]; } use k x; task t every 1 { fault x.m[@2147483648]; }");
    }

    /** What hangs on an E's KIND behind that E, how many E's behind the ) , how many numbers behind the Const. */
    private static void behindItsParts() {
        String told = "var byte b; var long l; var int r[2]; func int f(byte p, byte q) { return p; } block k(byte p, byte q) {} use k x; task t every 1 { ";
        Checks.fault(4, told + "b @= l; q = 1; }");
        Checks.fault(3, told + "b = l + @q; }");
        Checks.fault(5, told + "b = l + @2147483648; }");
        Checks.fault(3, told + "r[l + @q] = 1; }");
        Checks.fault(4, told + "r[@l] = q; }");
        Checks.fault(4, told + "r[@l].99 = 1; }");
        Checks.fault(4, told + "fault r[@l].99; }");
        Checks.fault(4, told + "fault f(@l, q); }");
        Checks.fault(3, told + "fault f(l + @q, 1); }");
        Checks.fault(4, told + "fault f(1, @l, q); }");
        Checks.fault(3, told + "fault f(1, 1, @q); }");
        Checks.fault(4, told + "fault @f(1, 1, l) + q; }");
        Checks.fault(4, told + "fault @f(1) + q; }");
        Checks.fault(4, told + "x(@l, q); }");
        Checks.fault(4, told + "@x(1, 1, l); q = 1; }");
        Checks.fault(4, told + "fault @abs(1, l) + q; }");
        Checks.fault(4, told + "fault f((byte) @f(1), l); }");
        Checks.fault(4, told + "for b @= l .. q {} }");
        Checks.fault(3, told + "for b = l + @q .. 1 {} }");
        Checks.fault(3, told + "for b = 1 .. @q {} }");
        Checks.fault(4, "func byte g(long l) { return @l; q = 1; }");
        Checks.fault(3, "func byte g(long l) { return l + @q; }");
        Checks.fault(5, "var byte a[200], b[200], c[@0], d;");
        Checks.fault(5, "var byte a[200], b[200], c = @128;");
        Checks.fault(5, "var byte a[200], b[200], @c = 127, c;");
        Checks.fault(5, "var byte a[200], b[200], @c; var byte a;");
        Checks.fault(5, "block k(byte p) {} var byte a[200], b[200]; use k @x, x;");
        Checks.fault(5, "block k(int p) { var byte @a[100] = 5, a; }");
    }
}
