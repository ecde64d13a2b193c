import java.util.function.IntFunction;

/** How much a text may have (promise 4): all that fits is sound, one more is a FAULT. */
final class LimitsTest {
    public static void main(String[] args) {
        names();
        numbersOfAKind();
        numbersOfARoutine();
        tokens();
        open();
        Checks.close("LimitsTest");
    }

    private static String many(int n, String between, IntFunction<String> one) {
        StringBuilder all = new StringBuilder();
        for (int i = 0; i < n; i++) {
            all.append(i == 0 ? "" : between).append(one.apply(i));
        }
        return all.toString();
    }

    private static void names() {
        Checks.sound(many(160, "", i -> "in byte v" + i + " at 0;"));
        Checks.fault(5, many(160, "", i -> "in byte v" + i + " at 0;") + "in byte @z at 0;");
        Checks.fault(3, many(160, "", i -> "in byte v" + i + " at 0;") + "in byte @v7 at 0;");
        Checks.sound(many(156, "", i -> "in byte v" + i + " at 0;") + "block k(int a, int b) { var int c; }");
        Checks.fault(5, many(156, "", i -> "in byte v" + i + " at 0;") + "block k(int a, int b) { var int c, @d; }");
        Checks.sound("block k(" + many(6, ",", i -> "int p" + i) + ") {}");
        Checks.fault(5, "block k(" + many(6, ",", i -> "int p" + i) + ", int @z) {}");
        Checks.fault(5, "func int f(" + many(6, ",", i -> "int p" + i) + ", int @z) {}");
        Checks.sound(many(8, "", i -> "block k" + i + "() {}") + many(16, "", i -> "func int f" + i + "() {}")
                + many(8, "", i -> "task t" + i + " every 1 {}") + "use k0 " + many(24, ",", i -> "u" + i) + ";");
        Checks.fault(5, many(8, "", i -> "block k" + i + "() {}") + "block @z() {}");
        Checks.fault(5, many(16, "", i -> "func int f" + i + "() {}") + "func int @z() {}");
        Checks.fault(5, many(8, "", i -> "task t" + i + " every 1 {}") + "task @z every 1 {}");
        Checks.fault(5, "block k() {} use k " + many(24, ",", i -> "u" + i) + "; use k @z;");
    }

    private static void numbersOfAKind() {
        for (String kind : new String[] {"byte", "short", "word", "int", "long"}) {
            String half = kind + " a[200]; keep " + kind + " b[199];";
            Checks.sound("var " + half + " var " + kind + " c; in " + kind + " d at 0;");
            Checks.fault(5, "var " + half + " var " + kind + " c, @d;");
            Checks.fault(5, "var " + half + " var " + kind + " @c[2];");
            Checks.sound("block k(" + kind + " p) {} var " + half + " use k u;");
            Checks.fault(5, "block k(" + kind + " p) {} var " + half + " use k u, @v;");
            Checks.fault(5, "block k() { var " + kind + " p[100]; } use k u, v, w, x, @y;");
        }
        Checks.sound("var byte a[200], b[200]; var short c[200], d[200]; var word e[200], f[200];"
                + " var int g[200], h[200]; var long i[200], j[200]; task t every 1 { j[199] = 5; }");
    }

    private static void numbersOfARoutine() {
        for (String head : new String[] {"block k", "func int k"}) {
            Checks.sound(head + "(int p) { var byte a[50]; var long b[49]; }");
            Checks.fault(5, head + "(int p) { var byte a[50]; var long b[49], @c; }");
            Checks.fault(5, head + "(int p) { var byte @a[100]; }");
            Checks.fault(5, head + "(int p) { var byte a[200] = @1000; }");
            Checks.fault(3, head + "(int p) { var byte a[99], @a; }");
        }
    }

    private static void tokens() {
        String head = "var int x; task t every 1 { ";
        // 4 and 6 tokens around; x ++ ; are three.
        Checks.sound(head + many(496, " ", i -> "x++;") + " return; }");
        SoftController c = Checks.with(head + many(496, " ", i -> "x++;") + " return; }");
        c.scan(1);
        Checks.same("496 Stats", c.value(0, 0), 496);
        Checks.fault(2, head + many(496, " ", i -> "x++;") + " return; } @var int y;");
        Checks.fault(2, head + many(497, " ", i -> "x++;") + " @}");
        Checks.sound(head + many(496, " ", i -> "x++;") + " return; } // more");
        Checks.fault(1, head + many(496, " ", i -> "x++;") + " return; } @#");
        Checks.fault(2, head + many(496, " ", i -> "x++;") + " return; } @'a' #");
        Checks.sound(head + "switch 1 { case " + many(740, ",", i -> "2") + " {} } }");
    }

    private static String open(String opening, String inner, String closing, int n) {
        return many(n, "", i -> opening) + inner + many(n, "", i -> closing);
    }

    private static void open() {
        String head = "var int x[3]; var int y; func int f(int p) { return p; } block k(int p) {} use k u; task t every 1 { ";
        String[][] ways = {{"(", ")", "@("}, {"- ", "", "@- "}, {"~", "", "@~"}, {"!", "", "@!"}, {"(int)", "", "@(int)"},
            {"f(", ")", "f@("}, {"x[", "]", "x@["}, {"1 ? ", " : 0", "1 @? "}, {"1 ? 0 : ", "", "1 @? 0 : "},
            {"abs(", ")", "abs@("}};
        for (String[] way : ways) {
            Checks.sound(head + "y = " + open(way[0], "1", way[1], 23) + "; }");
            Checks.fault(2, head + "y = " + many(23, "", i -> way[0]) + way[2] + "1" + many(24, "", i -> way[1]) + "; }");
        }
        // What is through is not OPEN any more.
        Checks.sound(head + "y = " + many(30, " + ", i -> open("(", "-~!1", ")", 20)) + "; }");
        Checks.sound(head + many(20, " ", i -> "y = - - - - - - 1;") + " }");
        Checks.sound(head + open("if 1 { ", "y++;", " }", 23) + " }");
        Checks.fault(2, head + many(23, "", i -> "if 1 { ") + "if 1 @{ y++; " + many(24, "", i -> "}") + " }");
        Checks.sound(head + open("switch 1 { default { ", "y++;", " } }", 11) + " }");
        Checks.fault(2, head + many(11, "", i -> "switch 1 { default { ") + "switch 1 { default @{ } }"
                + many(22, "", i -> "}") + " }");
        Checks.sound(head + open("while 1 { ", "u(" + open("(", "1", ")", 10) + ");", " break; }", 12) + " }");
        Checks.fault(2, head + many(12, "", i -> "while 1 { ") + "u(" + many(10, "", i -> "(") + "@-1" + many(10, "", i -> ")")
                + ");" + many(13, "", i -> "}"));
    }
}
