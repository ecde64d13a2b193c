/** FAULT 3 (promises 4 and 5): every sort of NAME wherever a NAME may stand, told again, not told, hidden. */
final class EdgesOfNamesTest {
    private static final String TOLD = "var int v; keep int r[3]; in byte c at 0; out word o at 2; block k(int p) { var int m[2]; }"
            + " use k x; func int f(int a) { return a; } ";
    /** One NAME of each sort; t is the task's own, p a block's parameter, a a function's, q is not told. */
    private static final String[] NAMES = {"v", "r", "c", "o", "k", "x", "f", "t", "abs", "p", "a", "q"};
    private static final String[] EIGHT = {"abs", "min", "max", "rol", "ror", "rev", "ones", "lead"};

    public static void main(String[] args) {
        uses();
        toldAgain();
        toldAgainWithin();
        hidden();
        notToldAhead();
        ofBlocks();
        loops();
        returns();
        Checks.close("EdgesOfNamesTest");
    }

    /** A Stat with NAME for N, and the FAULT of it for each of NAMES, a digit each; 0 is none. */
    private static void use(String stat, String faults) {
        for (int n = 0; n < NAMES.length; n++) {
            int number = faults.charAt(n) - '0';
            String text = TOLD + "task t every 1 { " + stat.replace("N", NAMES[n]) + " }";
            if (number == 0) {
                Checks.sound(text.replace("@", ""));
            } else {
                Checks.fault(number, text);
            }
        }
    }

    /** One that is not told, or is another thing than is wanted; KINDS (4) are asked of variables alone. */
    private static void uses() {
        //                         vrcokxftabs p a q
        use("@N = 1;",           "044033333333");
        use("@N += 1;",          "044033333333");
        use("@N++;",             "044033333333");
        use("@N--;",             "044033333333");
        use("@N.0 = 1;",         "044033333333");
        use("@N[0] = 1;",        "404433333333");
        use("@N[0].0 = 1;",      "404433333333");
        use("v = @N;",           "040033333333");
        use("v = -(1 + @N);",    "040033333333");
        use("v = @N.0;",         "040033333333");
        use("v = @N[0];",        "404433333333");
        use("v = @N[0].0;",      "404433333333");
        use("v = r[@N];",        "040033333333");
        use("v = @N(1);",        "333333030333");
        use("@N(1);",            "333330333333");
        use("v = @N.p;",         "333330333333");
        use("v = @N.m[0];",      "333330333333");
        use("v = x.@N;",         "333333333033");
        use("if @N {}",          "040033333333");
        use("while @N { break; }", "040033333333");
        use("switch @N {}",      "040033333333");
        use("fault @N;",         "040033333333");
        use("x(@N);",            "040033333333");
        use("v = f(@N);",        "040033333333");
        use("v = abs(@N);",      "040033333333");
        use("for v = @N .. 1 {}", "040033333333");
        use("for v = 1 .. @N {}", "040033333333");
        // A for's NAME that is told but no variable is FAULT 4: of what is no single variable, parameter, local.
        use("for @N = 1 .. 2 {}", "044044444333");
        use("} use @N y; task z every 1 {", "333303333333");
    }

    /** Told again: all that the text tells, and the eight; a block's or function's own are none of the text's. */
    private static void toldAgain() {
        String[] tellings = {"var int @N;", "keep byte @N[2];", "var int y, @N;", "in byte @N at 0;", "out long @N at 8;", "block @N() {}",
            "func int @N() {}", "use k @N;", "use k y, @N;", "task @N every 1 {}"};
        for (String telling : tellings) {
            for (String name : NAMES) {
                boolean free = "paq".contains(name);
                String text = TOLD + "task t every 1 {} " + telling.replace("N", name);
                if (free) {
                    Checks.sound(text.replace("@", ""));
                } else {
                    Checks.fault(3, text);
                }
            }
            for (String name : EIGHT) {
                Checks.fault(3, TOLD + telling.replace("N", name));
            }
            // Told within one telling, or by the Item itself.
            Checks.sound(TOLD + telling.replace("N", "q").replace("@", ""));
            Checks.fault(3, TOLD + telling.replace("N", "q").replace("@", "") + " var int @q;");
        }
    }

    /** In a block or function parameters and locals are told once; they hide all else, its own NAME and the eight too. */
    private static void toldAgainWithin() {
        for (String head : new String[] {"block b", "func int b"}) {
            Checks.fault(3, head + "(int q, byte @q) {}");
            Checks.fault(3, head + "(int y, int q) { var int @q; }");
            Checks.fault(3, head + "() { var int q, @q; }");
            Checks.fault(3, head + "() { var int q; var byte @q[3]; }");
            for (String name : NAMES) {
                Checks.sound(TOLD + head + "(int " + name + ") { " + name + "++; }");
                Checks.sound(TOLD + head + "() { var int " + name + "[2]; " + name + "[1]++; }");
            }
            for (String name : EIGHT) {
                Checks.sound(head + "(int " + name + ") { " + name + " = 1; } var int y; task t every 1 { y = ones(1); }");
            }
            Checks.sound(head + "(int b) { b = 1; }");
            Checks.sound(head + "() { var int b; b = 1; }");
            // What is told in one is not told in the next, nor in the text.
            Checks.sound(head + "(int q) { var int y; } block d(int q) { var int y; } func int e(int y, int q) {} var int q, y;");
            Checks.fault(3, head + "(int q) { var int y; } task t every 1 { @q = 1; }");
            Checks.fault(3, head + "(int q) { var int y; } task t every 1 { @y = 1; }");
            Checks.fault(3, head + "(int q) { var int y; } func int e() { return @q; }");
            Checks.fault(3, head + "(int q) { var int y; } block e() { @y = 1; }");
        }
    }

    /** What is hidden is another thing than is wanted. */
    private static void hidden() {
        String[][] rows = {{"x", "@x(1);"}, {"x", "v = @x.p;"}, {"f", "v = @f(1);"}, {"abs", "v = @abs(1);"}, {"lead", "v = @lead(1);"}};
        for (String[] row : rows) {
            Checks.sound(TOLD + "block b(int y) { " + row[1].replace("@", "") + " }");
            Checks.fault(3, TOLD + "block b(int " + row[0] + ") { " + row[1] + " }");
            Checks.fault(3, TOLD + "func int b() { var int " + row[0] + "; " + row[1] + " }");
        }
        // A parameter hides a row, a local row hides a single variable, a parameter hides an in variable.
        Checks.sound(TOLD + "block b(int r) { r = 1; }");
        Checks.fault(4, TOLD + "block b(int r) { @r[0] = 1; }");
        Checks.fault(4, TOLD + "block b() { var int v[2]; @v = 1; }");
        Checks.sound(TOLD + "block b(byte c) { c = 1; for c = 1 .. 2 {} }");
        Checks.fault(4, TOLD + "block b() { @c = 1; }");
        // A function that hides itself does not know itself.
        Checks.sound("func int g(int n) { return g(n); }");
        Checks.fault(3, "func int g(int g) { return @g(1); }");
    }

    /** Not told ahead of it: told behind is not told; a function knows itself, a block is told from its NAME on. */
    private static void notToldAhead() {
        Checks.fault(3, "task t every 1 { @v = 1; } var int v;");
        Checks.fault(3, "func int g() { return @v; } var int v;");
        Checks.fault(3, "block b() { @v = 1; } in int v at 0;");
        Checks.fault(3, "func int g() { return @h(); } func int h() { return 1; }");
        Checks.sound("func int h() { return 1; } func int g() { return h(); }");
        Checks.fault(3, "use @k x; block k() {}");
        Checks.fault(3, "block k() {} task t every 1 { @x(); } use k x;");
        Checks.fault(3, "block k(int p) {} var int v; task t every 1 { v = @x.p; } use k x;");
        Checks.fault(3, "block k() { @x(); } use k x;");
        Checks.fault(3, "block k() { @k(); }");
        Checks.fault(3, "block k() {} block @k() {}");
        Checks.fault(3, "func int g(int y) { var int z; z = @w; } var int w;");
        Checks.fault(3, "task t every 1 { @t(); }");
        Checks.fault(3, "task t every 1 {} task @t every 1 {}");
    }

    /** Ahead of . NAME an instance, and that NAME a parameter or local of its block, not of another one. */
    private static void ofBlocks() {
        String two = "var int p2; block k(int p) { var int m; } block l(int q) { var int n; } use k x; use l y; ";
        Checks.sound(two + "task t every 1 { p2 = x.p + x.m + y.q + y.n; }");
        for (String wrong : new String[] {"x.@q", "x.@n", "y.@p", "y.@m", "x.@x", "x.@k", "x.@p2", "x.@abs", "x.@t"}) {
            Checks.fault(3, two + "task t every 1 { p2 = " + wrong + "; }");
        }
        Checks.fault(3, two + "task t every 1 { p2 = @k.p; }");
        Checks.fault(3, two + "task t every 1 { p2 = @z.p; }");
        // The first NAME is come to first, and a row's [ ] is asked behind what the NAME is.
        Checks.fault(3, two + "task t every 1 { p2 = @z.zz; }");
        Checks.fault(3, two + "task t every 1 { p2 = x.@zz[l]; }");
        Checks.fault(4, two + "task t every 1 { p2 = x.@p[zz]; }");
    }

    /** break and continue in no loop, at the word; a switch is none, an if is none, a loop that is over is none. */
    private static void loops() {
        for (String word : new String[] {"break", "continue"}) {
            for (String stats : new String[] {"@W;", "if 1 { @W; }", "if 0 {} elif 1 { @W; }", "if 0 {} else { @W; }", "switch 1 { case 1 { @W; } }",
                "switch 1 { default { @W; } }", "while 0 {} @W;", "for v = 1 .. 2 {} @W;", "while 0 { W; } @W;"}) {
                Checks.fault(3, "var int v; task t every 1 { " + stats.replace("W", word) + " }");
            }
            for (String stats : new String[] {"while 0 { W; }", "for v = 1 .. 2 { W; }", "while 0 { if 1 { W; } }",
                "while 0 { switch 1 { case 1 { W; } default { W; } } }", "while 0 { while 0 {} W; }", "for v = 1 .. 2 { for v = 1 .. 2 { W; } W; }"}) {
                Checks.sound("var int v; task t every 1 { " + stats.replace("W", word) + " }");
            }
            Checks.fault(3, "block k() { @" + word + "; }");
            Checks.fault(3, "func int f() { @" + word + "; }");
        }
    }

    /** return with E elsewhere than in a function, without E in one, at the word; what its E is does not matter then. */
    private static void returns() {
        Checks.sound("task t every 1 { return; } block k() { return; } func int f() { return 1; }");
        Checks.fault(3, "task t every 1 { @return 1; }");
        Checks.fault(3, "task t every 1 { if 1 { @return (1); } }");
        Checks.fault(3, "block k() { @return 1; }");
        Checks.fault(3, "func int f() { @return; }");
        Checks.fault(3, "func int f() { while 1 { @return; } }");
        Checks.fault(3, "func int f() { return 1; } task t every 1 { @return 1; }");
        Checks.fault(3, "func int f() { return 1; } block k() { @return f(); }");
        Checks.fault(3, "task t every 1 { @return q; }");
        Checks.fault(3, "block k(int p) { @return 2147483648; }");
    }
}
