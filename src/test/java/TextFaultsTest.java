/** Promises 4 and 5: the FAULTS of texts, and their places (marked by an @). */
final class TextFaultsTest {
    private static final String TOLD = "var byte a; var int b[3]; in byte c at 0; out word o at 2; var short s;"
            + " var word w; var int i; var long l; func int f(byte p) { return p; }"
            + " block k(byte p) { var int r[2]; } use k x; ";

    public static void main(String[] args) {
        tokens();
        numbers();
        grammar();
        tellingNames();
        knowingNames();
        kindsAtNames();
        tooWide();
        calls();
        bounds();
        order();
        Checks.close("TextFaultsTest");
    }

    /** Stats in a task, behind what TOLD tells. */
    private static void inTask(int number, String stats) {
        String text = TOLD + "task t every 1 { " + stats + " }";
        if (number == 0) {
            Checks.sound(text);
        } else {
            Checks.fault(number, text);
        }
    }

    private static void tokens() {
        Checks.sound("");
        Checks.sound(" \t\r\n// a note \0\u00ff");
        Checks.sound("//\n//\n var//x\nint//y\na;//");
        Checks.fault(2, "var // /\n@");
        Checks.fault(2, "@/ /");
        Checks.fault(1, "var int @thirteen_char;");
        Checks.sound("var int twelve_chars, _, _1, A9z;");
        Checks.fault(1, "var int a@\u00e9;");
        Checks.fault(1, "var int a@#;");
        Checks.fault(1, "@\0");
        Checks.fault(1, "var int a = @'");
        Checks.fault(1, "var int a = @'ab';");
        Checks.fault(1, "var int a = @'\u007f';");
        Checks.fault(1, "var int a = @'\n';");
        Checks.sound("var int a = ''', d = ' ', e = '~';");
        Checks.fault(2, "var int @var;");
        inTask(0, "i = a - -a; i -= -1; i--; i = i>>>1; i>>>=1; i = a<-1;");
        inTask(2, "i = a @-- a;");
        inTask(2, "i @== 1;");
        inTask(2, "i =@>= 1;");
        inTask(0, "b[0].0=1; i = b[0].0 + x.r[0]; for i=0..1{} for i = a.0..1 {}");
        inTask(2, "for i=0..@.1{}");
    }

    private static void numbers() {
        Checks.sound("var long a = 0x8000000000000000L, d = 9223372036854775807L, e = 0000000000000000001L;");
        Checks.sound("var int a = 0x80000000, d = 2147483647, e = 0000000001, g = -0x80000000, h = 5L;");
        for (String none : new String[] {"5x", "0x", "0xg", "0X1", "0x123456789", "0x12345678901234567L", "5l", "5LL",
            "5L5", "5_", "12345678901", "00000000001", "00000000000000000001L", "0xL"}) {
            Checks.fault(1, "var long a = @" + none + ";");
        }
        Checks.fault(5, "var long a = @2147483648;");
        Checks.fault(5, "var long a = -@2147483648;");
        Checks.fault(5, "var long a = @9223372036854775808L;");
        Checks.fault(5, "var long a = -@9999999999999999999L;");
        inTask(5, "l = -@2147483648;");
        inTask(0, "l = 0xffffffffL;");
    }

    private static void grammar() {
        Checks.fault(2, "@abs");
        Checks.fault(2, "var int a@");
        Checks.fault(2, "var int a;  // ends\n task t every 1 {  @");
        Checks.fault(2, "var @a;");
        Checks.fault(2, "var @if a;");
        Checks.fault(2, "var @after a;");
        inTask(2, "i = (@if) 1;");
        Checks.fault(2, "var int a[@-1];");
        Checks.fault(2, "var int a = @b;");
        Checks.fault(2, "var int a = - @-1;");
        Checks.fault(2, "in byte a@[2] at 0;");
        Checks.fault(2, "in byte a at @-1;");
        Checks.fault(2, "use k@;");
        Checks.fault(2, "block k(int a,@) {}");
        Checks.fault(2, "block k(int a@[3]) {}");
        Checks.fault(2, "func @f(int a) {}");
        Checks.fault(2, "block k() { i = 1; @var int i; }");
        Checks.fault(2, "task t every 1 { @var int i; }");
        Checks.fault(2, "task t @after 1 {}");
        Checks.fault(2, "func int f() {} @;");
        inTask(2, "@;");
        inTask(2, "@{}");
        inTask(2, "i = 1 @}");
        inTask(2, "x.@p = 1;");
        inTask(2, "i = x.p@.0;");
        inTask(2, "i = i.0@[1];");
        inTask(2, "f(1) @+ 1;");
        inTask(2, "i = @;");
        inTask(2, "i = @+1;");
        inTask(2, "i = (@);");
        inTask(2, "i = (int @;");
        inTask(2, "i = 1 ? 2@;");
        inTask(2, "if 1 {} else {} @elif 1 {}");
        inTask(2, "if 1 @i = 2;");
        inTask(2, "switch i { default {} @case 1 {} }");
        inTask(2, "switch i { case @i {} }");
        inTask(2, "for b@[0] = 1 .. 2 {}");
        inTask(2, "for i @+= 1 .. 2 {}");
        inTask(2, "return 1 @}");
        inTask(0, "if (1) {} elif 2 {} elif 3 {} else {} switch i {} switch i { case 1, 2..3, -'a'..'b' {} default {} }");
        inTask(0, "i = 1 ? 2 : 3 ? 4 : 5; i = 1 ? 2 ? 3 : 4 : 5; i = - ~ ! (byte) - 5; i = 1 == 1 == 1;");
    }

    private static void tellingNames() {
        Checks.fault(3, "var int a, @a;");
        Checks.fault(3, "var int a; block @a() {}");
        Checks.fault(3, "var int a; func int @a() {}");
        Checks.fault(3, "var int a; task @a every 1 {}");
        Checks.fault(3, "in int a at 0; out byte @a at 0;");
        Checks.fault(3, "block k() {} use k u, @u;");
        Checks.fault(3, "block k() {} use k @k;");
        for (String one : new String[] {"abs", "min", "max", "rol", "ror", "rev", "ones", "lead"}) {
            Checks.fault(3, "var int @" + one + ";");
            Checks.fault(3, "task @" + one + " every 1 {}");
            Checks.sound("block k(int " + one + ") { " + one + " = 1; }");
        }
        Checks.fault(3, "block k(int a, byte @a) {}");
        Checks.fault(3, "func int f(int a) { var int @a; }");
        Checks.fault(3, "func int f() { var int a, @a; }");
        Checks.sound("var int a; block k(int a, int k) { var int abs; } func int f(int a, int f) { var int k; } var int p;");
        Checks.sound("block k(int p) {} var int p; block m(int p) {}");
    }

    private static void knowingNames() {
        inTask(3, "@q = 1;");
        inTask(3, "i = @q;");
        inTask(3, "@f = 1;");
        inTask(3, "i = @t;");
        inTask(3, "i = @abs;");
        inTask(3, "@p = 1;");
        inTask(3, "i = @a(1);");
        inTask(3, "i = @x(1);");
        inTask(3, "i = @q(1);");
        inTask(3, "@f(1);");
        inTask(3, "@abs(1);");
        inTask(3, "@k(1);");
        inTask(3, "i = @a.p;");
        inTask(3, "i = @k.p;");
        inTask(3, "i = x.@q;");
        inTask(3, "i = x.@a;");
        inTask(3, "for @q = 1 .. 2 {}");
        inTask(3, "@break;");
        inTask(3, "@continue;");
        inTask(3, "if 1 { switch 1 { case 1 { @break; } } }");
        inTask(0, "while 0 { switch 1 { case 1 { break; } default { continue; } } }");
        inTask(3, "while 0 {} @break;");
        inTask(3, "@return 1;");
        inTask(0, "return;");
        Checks.fault(3, "func int f() { @return; }");
        Checks.fault(3, "block k() { @return 1; }");
        Checks.fault(3, "use @k u; block k() {}");
        Checks.fault(3, "var int k; use @k u;");
        Checks.fault(3, "use @abs u;");
        Checks.fault(3, "task t every 1 { @a = 1; } var int a;");
        Checks.fault(3, "func int f() { return @g(); } func int g() {}");
        Checks.sound("func int f() { return f(); }");
        Checks.fault(3, "func int f(int f) { return @f(1); }");
        Checks.fault(3, "func int f(int abs) { return @abs(1); }");
        Checks.fault(3, TOLD + "block m(int x) { @x(1); }");
        Checks.fault(3, TOLD + "block m(int x) { i = @x.p; }");
        Checks.sound(TOLD + "block m(int y) { x(1); i = x.p; }");
    }

    private static void kindsAtNames() {
        inTask(4, "@b = 1;");
        inTask(4, "i = @b;");
        inTask(4, "i = @b.0;");
        inTask(4, "@i[0] = 1;");
        inTask(4, "i = @i[0];");
        inTask(4, "i = @c[0];");
        inTask(4, "i = x.@r;");
        inTask(4, "i = x.@p[0];");
        inTask(4, "@c = 1;");
        inTask(4, "@c += 1;");
        inTask(4, "@c++;");
        inTask(4, "@c.0 = 1;");
        inTask(4, "for @c = 1 .. 2 {}");
        inTask(4, "for @b = 1 .. 2 {}");
        inTask(4, "for @f = 1 .. 2 {}");
        inTask(0, "for o = 1 .. 2 {}");
        inTask(4, "i.0 @+= 1;");
        inTask(4, "i.0@++;");
        inTask(4, "b[0].1 @-= 1;");
        inTask(4, "b[@l] = 1;");
        inTask(4, "b[@(1L)] = 1;");
        inTask(4, "i = b[@1L + 1];");
        inTask(4, "i = x.r[@l];");
        inTask(0, "b[a] = b[w + s] + x.r[c] + b[(int) l];");
    }

    private static void tooWide() {
        String[][] fits = {{"a", "a"}, {"s", "a"}, {"s", "s"}, {"w", "w"}, {"i", "a"}, {"i", "s"}, {"i", "w"}, {"i", "i"},
            {"l", "a"}, {"l", "s"}, {"l", "w"}, {"l", "i"}, {"l", "l"}, {"a", "127"}, {"a", "-128"}, {"a", "(-128)"},
            {"a", "((5L))"}, {"a", "'a'"}, {"w", "65535"}, {"w", "-0"}, {"i", "2147483647L"}, {"i", "now"}, {"i", "f(1)"},
            {"a", "(byte) l"}, {"i", "a.0"}, {"i", "!l"}, {"i", "l == l"}, {"i", "l && l"}, {"i", "ones(l)"},
            {"i", "lead(l)"}, {"i", "rol(a, l)"}, {"i", "a << l"}, {"i", "l ? 1 : 2"}, {"a", "x.p"}, {"a", "0xffffffff"}};
        for (String[] one : fits) {
            inTask(0, one[0] + " = " + one[1] + ";");
        }
        String[][] wide = {{"a", "s"}, {"a", "w"}, {"a", "i"}, {"s", "w"}, {"w", "a"}, {"w", "s"}, {"s", "i"}, {"w", "i"},
            {"i", "l"}, {"a", "128"}, {"a", "-129"}, {"w", "-1"}, {"a", "-(5)"}, {"a", "- -5"}, {"a", "5 + 5"}, {"a", "-a"},
            {"a", "~a"}, {"a", "!a"}, {"a", "a ? a : a"}, {"a", "1 ? 1 : 1"}, {"i", "1 ? 1 : 1L"}, {"i", "a + 1L"},
            {"i", "l << 1"}, {"i", "min(1, 1L)"}, {"i", "abs(1L)"}, {"i", "rev(l)"}, {"i", "rol(l, 1)"}, {"a", "0xff"},
            {"i", "2147483648L"}, {"a", "-4294967301L"}, {"a", "a.0"}, {"a", "now"}, {"a", "f(1)"}, {"a", "(int) 5"}};
        for (String[] one : wide) {
            inTask(4, one[0] + " @= " + one[1] + ";");
        }
        inTask(4, "o @= i;");
        inTask(4, "for a @= i .. 1 {}");
        inTask(0, "for a = 1 .. l {}");
        inTask(0, "a += l; a /= l; a <<= l; a.0 = l; b[0].3 = 5L;");
        Checks.fault(4, "func byte f(int a) { return @a; }");
        Checks.fault(4, "func byte f(int a) { return @(128); }");
        Checks.sound("func byte f(int a) { return (127); }");
    }

    private static void calls() {
        inTask(4, "i = f(@i);");
        inTask(4, "i = f(@(1000));");
        inTask(4, "x(@s);");
        inTask(4, "x(@1 + 1);");
        inTask(0, "x(-1); i = f(a); i = f(c); x(x.p);");
        inTask(4, "i = @f();");
        inTask(4, "i = @f(1, 2);");
        inTask(4, "i = @f(1, l, l);");
        inTask(4, "@x();");
        inTask(4, "@x(1, 2);");
        inTask(4, "i = @abs();");
        inTask(4, "i = @abs(1, 2);");
        inTask(4, "i = @max(1);");
        inTask(4, "i = @rol(1, 2, 3);");
        inTask(0, "i = abs(a) + min(1, 2) + max(a, w) + rol(1, 2) + ror(1, l) + rev(s) + ones(l) + lead(l);");
    }

    private static void bounds() {
        Checks.fault(5, "var byte a = @128;");
        Checks.fault(5, "var byte a = -@129;");
        Checks.fault(5, "var byte a = @0xff;");
        Checks.fault(5, "var word a = -@1;");
        Checks.fault(5, "var int a = @0xffffffffL;");
        Checks.sound("var byte a = -128, d = 0xffffffff; var word w = 65535; var short s = 'z';");
        Checks.fault(5, "var int a[@0];");
        Checks.fault(5, "var int a[@201];");
        Checks.fault(5, "var int a[@0xffffffff];");
        Checks.sound("var int a[200], d[1], e[0x2L];");
        int[] sizes = {1, 2, 2, 4, 8};
        String[] kinds = {"byte", "short", "word", "int", "long"};
        for (int k = 0; k < 5; k++) {
            Checks.sound("in " + kinds[k] + " a at " + (64 - sizes[k]) + "; out " + kinds[k] + " d at 0;");
            Checks.fault(5, "in " + kinds[k] + " a at @" + (65 - sizes[k]) + ";");
            Checks.fault(5, "out " + kinds[k] + " a at @0xffffffff;");
            inTask(0, "l = ((" + kinds[k] + ") l) + " + "aswil".charAt(k) + "." + (8 * sizes[k] - 1) + ";");
            inTask(5, "i = " + "aswil".charAt(k) + ".@" + 8 * sizes[k] + ";");
            inTask(5, "aswil".charAt(k) + ".@" + 8 * sizes[k] + " = 1;");
        }
        Checks.fault(5, "task t every @0 {}");
        Checks.fault(5, "task t every @1001 {}");
        Checks.fault(5, "task t every 5 after @5 {}");
        Checks.fault(5, "task t every @0 after 9 {}");
        Checks.sound("task t every 1000 after 999 {} task u every 1 after 0 {} task v every 5L {}");
        inTask(5, "switch i { case 3 .. @2 {} }");
        inTask(5, "switch i { case 3 .. @-4 {} }");
        inTask(5, "switch i { case @2147483648 {} }");
        inTask(0, "switch i { case 3..3, -4..3, 0x80000000..0x7fffffffL {} }");
    }

    private static void order() {
        // 1 and 2 come ahead of all others, wherever they are.
        Checks.fault(2, "var byte a = 1000; var int a; @q");
        Checks.fault(1, "var byte a = 1000; @$");
        Checks.fault(2, "task t every 1 { a @} $");
        // What is found first, not what stands first.
        inTask(3, "a = @q;");
        inTask(4, "a @= i; q = 1;");
        inTask(3, "i = f(i.0 + @q);");
        inTask(4, "i = f(@i, q);");
        inTask(3, "i = f(1, @q);");
        inTask(5, "b[l.@64] = 1;");
        Checks.fault(5, "var byte a[200], d[200], e[1] = @1000;");
        Checks.fault(5, "var byte a[200], d[200], @e[1] = 100;");
        Checks.fault(5, "var byte a[@201] = 1000;");
        Checks.fault(3, "var byte a, @a[201];");
        inTask(5, "a.@8 += 1;");
        inTask(4, "a.7 @+= q;");
        inTask(3, "@q[0].99 = 1;");
        inTask(4, "for a @= i .. q {}");
    }
}
