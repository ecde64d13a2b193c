/**
 * WORK and the FAULTS of a run (promises 6, 11 to 13): for every watchdog's number up to all of a run's WORK, the run
 * is over at the token that would cost more, and WORK stays.
 */
final class EdgesOfWorkTest {
    private static final String TOLD = "var int i, j = 1, z, r[3]; var long l = 5; var byte b; in byte c at 0; out word o at 0;"
            + " func int f(int p, int q) {} func int g() {} block k(int p, int q) { var int m[2]; } block e() {} use k x; use e y; ";

    public static void main(String[] args) {
        statements();
        operators();
        calls();
        branches();
        loops();
        bodies();
        mostOfAll();
        ofEachTaskAndRun();
        byZero();
        noPlace();
        tooDeep();
        byFault();
        Checks.close("EdgesOfWorkTest");
    }

    /** A mark @ and a letter, or @ and @ for what costs twice, stand ahead of a token; the letters tell the order of costs. */
    private static void inOrder(String told, String marked, String order) {
        StringBuilder text = new StringBuilder(told).append("task t every 1 { ");
        int[] places = new int[128];
        for (int i = 0; i < marked.length(); i++) {
            if (marked.charAt(i) == '@') {
                places[marked.charAt(i + 1)] = text.length();
                i++;
            } else {
                text.append(marked.charAt(i));
            }
        }
        String all = text.append(" }").toString();
        SoftController c = Checks.with(all);
        int costs = order.length();
        for (int most = 1; most <= costs + 1; most++) {
            c.power();
            c.watchdog(most);
            c.scan(1);
            boolean stops = most < costs;
            String what = "with " + most + ": " + all;
            Checks.same("STOPPED " + what, c.task(0, 2), stops ? 1 : 0);
            Checks.same("WORK " + what, c.task(0, 4), stops ? most : costs);
            if (stops) {
                Checks.same("FAULT " + what, c.task(0, 5), 3);
                Checks.same("place " + what, c.task(0, 6), places[order.charAt(most)]);
            }
        }
    }

    /** Where costs come in the order of the text: each @ is one. */
    private static void asWritten(String stats) {
        StringBuilder marked = new StringBuilder();
        StringBuilder order = new StringBuilder();
        char letter = 'A';
        for (int i = 0; i < stats.length(); i++) {
            if (stats.charAt(i) != '@') {
                marked.append(stats.charAt(i));
            } else if (stats.charAt(i + 1) == '@') {
                order.append(letter);
            } else {
                order.append(letter);
                marked.append('@').append(letter);
                letter++;
            }
        }
        inOrder(TOLD, marked.toString(), order.toString());
    }

    /** Each Stat, NUMBER, CHARACTER, now, variable; a Place on the left costs nothing, its index does, -- and ++ nothing besides. */
    private static void statements() {
        asWritten("@i = @1; @i = @'a'; @i = @now; @i = @j; @b = @c; @l = @5L;");
        asWritten("@i++; @i--; @o++; @l--; @r[@0]++; @r[@j]--;");
        asWritten("@i += @1; @i -= @j; @l *= @2; @i /= @1; @i %= @2; @i &= @1; @i |= @1; @i ^= @1; @l <<= @1; @l >>= @1; @l >>>= @1;");
        asWritten("@r[@1] = @2; @r[@j] += @2; @r[@j @- @1] = @r[@2]; @r[@r[@0]] = @r[@r[@0]];");
        asWritten("@i.3 = @1; @r[@1].3 = @2; @o.0 = @j; @i = @j.3; @i = @r[@j].3; @i = @c.7; @l.63 = @l.0;");
        asWritten("@return;");
        asWritten("@i = (((@1))); @i = ((@j));");
    }

    private static void operators() {
        for (String sign : new String[] {"+", "-", "*", "/", "%", "&", "|", "^", "<<", ">>", ">>>", "==", "!=", "<", "<=", ">", ">="}) {
            asWritten("@l = @j @" + sign + " @2; @l = (@j @" + sign + " @2) @" + sign + " (@3 @" + sign + " @2);");
        }
        asWritten("@i = @-@j; @i = @~@!@-@j; @i = @-(@j); @i = @- @- @5; @i = @-@5;");
        asWritten("@i = @(byte)@j; @i = @(byte)@(word)@-@j; @i = @(int)(@j @+ @1); @l = @(long)@l;");
        // Of two sides the sign costs behind the left side, ahead of the right one, whatever binds stronger.
        asWritten("@i = @1 @+ @2 @* @3 @- @4 @<< @1; @i = @1 @|@2 @^@3 @&@4; @i = @-@1 @* @~@2 @+ @(byte)@3;");
    }

    /** A call's NAME ahead of its E's; of an instance's call both, ahead of its E's. */
    private static void calls() {
        asWritten("@i = @g(); @i = @f(@1, @2); @i = @f(@f(@1, @2), @g() @+ @1) @+ @g();");
        asWritten("@i = @abs(@j); @i = @min(@1, @2) @+ @max(@1, @j); @i = @rol(@j, @1) @+ @ror(@j, @1); @i = @rev(@1) @+ @ones(@l) @+ @lead(@l);");
        asWritten("@@y(); @@x(@1, @2); @@x(x.@p, @2);");
        asWritten("@@x(@f(@1, @2), @j @+ @1); @i = @r[@g()];");
        asWritten("@i = x.@p; @i = x.@m[@1]; @i = x.@m[x.@p] @+ x.@q;");
    }

    /** && || ? cost their token behind the left side or first part, and what is needed alone is worked. */
    private static void branches() {
        asWritten("@i = @0 @&& 1; @i = @1 @&& @1; @i = @1 @|| 0; @i = @0 @|| @1; @i = @0 @&& 1 @|| @1 @&& @1;");
        asWritten("@i = @1 @? @2 : 3; @i = @0 @? 2 : @3; @i = @0 @? 1 : @1 @? @2 : 3; @i = @1 @? @0 @? 1 : @2 : 3;");
        asWritten("@i = (@1 @? @2 : 3) @+ @1; @r[@0 @&& 1] = @1;");
        asWritten("@if @0 { i = 1; } elif @j @- @1 { i = 1; } elif @1 { @i = @1; } else { i = 1; } @i++;");
        asWritten("@if @0 {} else { @i++; } @if @1 { @i++; } else { i++; } @if @1 {}");
        asWritten("@switch @3 { case 1, 2 { i = 1; } case 3 .. 5, 7 { @i++; } default { i++; } } @i++;");
        asWritten("@switch @9 { case 1, 2 { i = 1; } case 3 .. 5 { i++; } default { @i++; } } @switch @9 { case 1 { i++; } } @switch @j @+ @1 {}");
        asWritten("@if @1 { @return; } i++;");
    }

    /** Each round of while and for, at that word, behind the condition or compare by which its Body is to be begun. */
    private static void loops() {
        inOrder(TOLD, "@awhile @bi @c< @d2 { @ei++; } @fj++;", "abcd" + "aebcd" + "aebcd" + "f");
        inOrder(TOLD, "@awhile @b0 { i++; } @cj++;", "abc");
        inOrder(TOLD, "@awhile @b1 { @ci++; @dif @ei @f== @g2 { @hbreak; } } @xj++;", "ab" + "acdefg" + "b" + "acdefgh" + "x");
        inOrder(TOLD, "@awhile @bi @c< @d2 { @ei++; @fcontinue; i = 9; } @xj++;", "abcd" + "aefbcd" + "aefbcd" + "x");
        inOrder(TOLD, "@afor i = @b1 .. @c3 { @dz++; } @xj++;", "abc" + "ad" + "ad" + "ad" + "x");
        inOrder(TOLD, "@afor i = @b3 .. @c1 { z++; } @xj++;", "abcx");
        inOrder(TOLD, "@afor i = @bj @c- @d1 .. @ej { @fcontinue; } @xj++;", "abcde" + "af" + "af" + "x");
        inOrder(TOLD, "@afor i = @b1 .. @c3 { @dbreak; } @xj++;", "abc" + "ad" + "x");
        inOrder(TOLD, "@afor i = @b1 .. @c2 { @dfor z = @e1 .. @f2 { @gj++; } } @xj++;", "abc" + "adef" + "dgdg" + "adef" + "dgdg" + "x");
        inOrder(TOLD, "@afor i = @b1 .. @c5 { @di = @e7; } @xj++;", "abc" + "ade" + "x");
    }

    /** A block's and a function's Stats cost as a task's do; what the watchdog stops there is told of the task. */
    private static void bodies() {
        String told = "var int i; func int f(int n) { var int v = 3; v = n; return v + 1; } block k(int p) { var int m; m += p; if m > 2 { return; } m++; } use k x; ";
        int ofF = told.indexOf("v = n");
        int ofK = told.indexOf("m += p");
        int[] inF = {ofF, told.indexOf("n;", ofF), told.indexOf("return v"), told.indexOf("v + 1"), told.indexOf("+ 1"), told.indexOf("1; }")};
        int[] inK = {ofK, told.indexOf("p;", ofK), told.indexOf("if m"), told.indexOf("m > 2"), told.indexOf("> 2"), told.indexOf("2 {"), told.indexOf("m++")};
        SoftController c = Checks.with(told + "task t every 1 { i = f(5); x(2); x(1); }");
        int task = told.length();
        int[] due = new int[64];
        int n = 0;
        String stats = "task t every 1 { i = f(5); x(2); x(1); }";
        for (int place : new int[] {stats.indexOf("i ="), stats.indexOf("f("), stats.indexOf("5")}) {
            due[n++] = task + place;
        }
        for (int place : inF) {
            due[n++] = place;
        }
        for (int place : new int[] {stats.indexOf("x(2"), stats.indexOf("x(2"), stats.indexOf("2)")}) {
            due[n++] = task + place;
        }
        for (int place : inK) {
            due[n++] = place;
        }
        for (int place : new int[] {stats.indexOf("x(1"), stats.indexOf("x(1"), stats.indexOf("1)")}) {
            due[n++] = task + place;
        }
        for (int k = 0; k < 6; k++) {
            due[n++] = inK[k];
        }
        due[n++] = told.indexOf("return; }");
        for (int most = 1; most <= n; most++) {
            c.power();
            c.watchdog(most);
            c.scan(1);
            Checks.same("STOPPED with " + most, c.task(0, 2), most < n ? 1 : 0);
            Checks.same("WORK with " + most, c.task(0, 4), most < n ? most : n);
            if (most < n) {
                Checks.same("place with " + most, c.task(0, 6), due[most]);
            }
        }
    }

    /** The watchdog's number is 1 .. 5000, and WORK may be that number. */
    private static void mostOfAll() {
        String text = "var int i, n; task t every 1 { for i = 1 .. n { } }";
        SoftController c = Checks.with(text);
        int[] numbers = {3, 4, 100, 3000, 4999, 5000};
        for (int most : numbers) {
            c.watchdog(most);
            c.poke(1, 0, most - 3);
            c.scan(1);
            Checks.same("WORK of " + most, c.task(0, 4), most);
            Checks.same("not STOPPED", c.clear(0), false);
            c.poke(1, 0, most - 2);
            c.scan(1);
            Checks.same("WORK stays at " + most, c.task(0, 4), most);
            Checks.same("STOPPED", c.clear(0), true);
            Checks.same("what was done stays", c.value(0, 0), most - 2);
            Checks.same("at the word", c.task(0, 6), text.indexOf("for"));
        }
        SoftController fresh = Checks.with("var int i; task t every 1 { while 1 { i++; } }");
        fresh.scan(1);
        Checks.same("3000 at first", fresh.task(0, 4), 3000);
        Checks.same("FAULT 3", fresh.task(0, 5), 3);
    }

    /** WORK is of one run of one task; a watchdog that is changed counts from the next run on. */
    private static void ofEachTaskAndRun() {
        SoftController c = Checks.with("var int i; task t every 1 { i++; i++; } task u every 1 { i++; i++; i++; } task v every 2 after 1 { i = 1; }");
        c.watchdog(3);
        Checks.same("runs", c.scan(4), 10);
        Checks.same("WORK of t", c.task(0, 4), 2);
        Checks.same("WORK of u", c.task(1, 4), 3);
        Checks.same("WORK of v", c.task(2, 4), 2);
        c.watchdog(2);
        Checks.same("runs then", c.scan(2), 4);
        Checks.same("one is STOPPED", c.count(6), 1);
        Checks.same("u is", c.task(1, 2), 1);
        Checks.same("WORK of u then", c.task(1, 4), 2);
        c.watchdog(1);
        Checks.same("t and v are begun, u is not", c.scan(2), 2);
        Checks.same("all are STOPPED", c.count(6), 3);
        Checks.same("none is begun", c.scan(2), 0);
    }

    private static void runs(String told, String marked, int fault, int work) {
        SoftController c = Checks.stops(fault, told + "task t every 1 { " + marked + " }", 3000);
        if (work >= 0) {
            Checks.same("WORK of " + marked, c.task(0, 4), work);
        }
    }

    /** / or % by 0, at the sign, behind both sides; in every KIND. */
    private static void byZero() {
        for (String kind : new String[] {"byte", "short", "word", "int", "long"}) {
            String told = "var " + kind + " a = 5, n, r[2]; var long l; out " + kind + " o at 0; ";
            for (String sign : new String[] {"/", "%"}) {
                runs(told, "l = a @" + sign + " n;", 1, 4);
                runs(told, "l = 1 + a @" + sign + " (n * 2);", 1, 8);
                runs(told, "l = 7L @" + sign + " n;", 1, 4);
                runs(told, "l = n @" + sign + " 0;", 1, 4);
                runs(told, "l = n @" + sign + " 0L;", 1, 4);
                runs(told, "l = 5 " + sign + " (a @" + sign + " n);", 1, 6);
                runs(told, "a @" + sign + "= n;", 1, 2);
                runs(told, "r[1] @" + sign + "= n;", 1, 3);
                runs(told, "o @" + sign + "= n;", 1, 2);
                runs(told, "a @" + sign + "= l;", 1, 2);
                Checks.same("it stays", Checks.stops(1, told + "task t every 1 { a @" + sign + "= 0; a = 7; }", 3000).value(0, 0), 5);
            }
        }
        runs("var int i, r[2]; ", "i = r[1 @/ i];", 1, 5);
        runs("var int i; ", "if 1 @% i { i = 1; }", 1, 4);
        runs("var int i; ", "while 1 @/ i { i = 1; }", 1, 4);
        runs("var int i; ", "for i = 1 .. 1 @/ (i - 1) { i = 1; }", 1, 7);
        runs("var int i; ", "switch 1 @/ i {}", 1, 4);
        // What is not worked is not by 0.
        Checks.worked("var int n = 0;", "(0 && 1 / n) + (1 || 1 % n) + (1 ? 3 : 1 / n) + (0 ? 1 % n : 4)", 8);
    }

    /** An index that its row hasn't, at the NAME, behind . at that one; it is asked ahead of E. */
    private static void noPlace() {
        for (int size : new int[] {1, 2, 100}) {
            String told = "var int i, n; var byte r[" + size + "]; func int touch() { n++; return 0; } block k(int p) { var long m["
                    + (size < 100 ? size : 99) + "]; m[p] = 1; } use k x; func int f(int p) { var short v[" + (size < 100 ? size : 99) + "]; v[p]++; return v[p]; } ";
            int most = size < 100 ? size : 99;
            for (long index : new long[] {-1, size, size + 1L, Integer.MIN_VALUE, Integer.MAX_VALUE, 65536, 256}) {
                String e = index == Integer.MIN_VALUE ? "0x80000000" : "" + index;
                for (String stat : new String[] {"@r[E] = 1;", "@r[E] += 1;", "@r[E]++;", "@r[E].0 = 1;", "i = @r[E];", "i = @r[E].7;", "i = x.@m[E] == 1;",
                    "@r[E] = (byte) touch();", "@r[E] += touch();", "@r[E].1 = touch();"}) {
                    SoftController c = Checks.stops(2, told + "task t every 1 { " + stat.replace("E", e) + " i = 9; }", 3000);
                    Checks.same("E is not worked", c.value(1, 0), 0);
                    Checks.same("it is over at once", c.value(0, 0), 0);
                }
                Checks.stops(2, told.replace("m[p]", "@m[p]") + "task t every 1 { x(" + e + "); }", 3000);
                Checks.stops(2, told.replace(" v[p]++", " @v[p]++") + "task t every 1 { i = f(" + e + "); }", 3000);
            }
            for (int index : new int[] {0, size - 1}) {
                Checks.worked(told, "r[" + index + "] + r[" + index + "].7", 0);
                Checks.worked(told, "x.m[" + Math.min(index, most - 1) + "]", 0);
                Checks.worked(told, "f(" + Math.min(index, most - 1) + ")", 1);
            }
        }
        SoftController c = Checks.with("var int i = -2; var byte r[200] = 1; task t every 1 { i++; r[i]++; }");
        Checks.same("from -1 on", c.scan(1), 1);
        Checks.same("r[-1]", c.task(0, 5), 2);
        c.clear(0);
        for (int n = 0; n < 4; n++) {
            c.scan(50);
        }
        Checks.same("all 200 places", c.task(0, 2), 0);
        Checks.same("the first", c.value(1, 0), 2);
        Checks.same("the last", c.value(1, 199), 2);
        c.scan(1);
        Checks.same("r[200]", c.task(0, 2), 1);
        Checks.same("its TICK", c.task(0, 7), 201);
    }

    /** A ninth CALL of instances and functions within one another, at the NAME, behind its E's; the eight do not count. */
    private static void tooDeep() {
        String deep = "var int i, n; func int f(int d) { n++; if d <= 1 { return lead(d); } return f(d - 1); } ";
        SoftController c = Checks.with(deep + "task t every 1 { i = f(8); } task u every 1 { i = f(8) + f(8); }");
        c.scan(1);
        Checks.same("eight CALLS", c.count(6), 0);
        Checks.same("24 calls in all", c.value(1, 0), 24);
        SoftController d = Checks.stops(4, deep.replace("f(d - 1)", "@f(d - 1)") + "task t every 1 { i = 5; i = f(9); }", 3000);
        Checks.same("eight were begun", d.value(1, 0), 8);
        Checks.same("what was done stays", d.value(0, 0), 5);
        Checks.same("WORK with the ninth's E's", d.task(0, 4), 2 + 3 + 8 * 10);
        d.clear(0);
        d.scan(1);
        Checks.same("again from none on", d.value(1, 0), 16);
        // Its E's come first: by 0 ahead of too deep.
        Checks.stops(1, "var int i, n; func int f(int d) { n++; return f(n == 8 ? 1 @/ 0 : d); } task t every 1 { i = f(1); }", 3000);
        // A chain of eight instances, each in the one before; then a function, or a ninth instance.
        StringBuilder chain = new StringBuilder("var int n, i; func int g() { n += 100; return 1; } block b0(int p) { n++; if p { BODY } } use b0 x0; ");
        for (int k = 1; k < 8; k++) {
            chain.append("block b").append(k).append("(int p) { n++; x").append(k - 1).append("(p); } use b").append(k).append(" x").append(k).append("; ");
        }
        SoftController e = Checks.with(chain.toString().replace("BODY", "i = g();") + "task t every 1 { x7(0); i = abs(-1); }");
        e.scan(1);
        Checks.same("a chain of eight", e.value(0, 0), 8);
        Checks.same("no FAULT", e.task(0, 5), 0);
        SoftController h = Checks.stops(4, chain.toString().replace("BODY", "i = @g();") + "task t every 1 { x7(1); }", 3000);
        Checks.same("g is not begun", h.value(0, 0), 8);
        SoftController m = Checks.with(chain.toString().replace("BODY", "i = abs(-3) + min(4, ones(1));") + "task t every 1 { x7(1); }");
        m.scan(1);
        Checks.same("the eight are no CALLS", m.value(1, 0), 4);
        SoftController seven = Checks.with(chain.toString().replace("BODY", "i = g() + g();") + "task t every 1 { x6(1); }");
        seven.scan(1);
        Checks.same("seven and one, twice", seven.value(0, 0), 207);
        SoftController brought = Checks.stops(4, "var int i; block k(int p, int q) { i++; } use k x; func int f(int d) { if d == 8 { @x(d, 70 + d); } return f(d + 1); }"
                + " task t every 1 { i = f(1); }", 3000);
        Checks.same("its E's were brought", brought.field(0, 0, 0), 8);
        Checks.same("both", brought.field(0, 1, 0), 78);
        Checks.same("it was not done", brought.value(0, 0), 0);
    }

    /** By fault, at the word, with the number CUT to an int. */
    private static void byFault() {
        String[] numbers = {"0", "1", "-1", "2147483647", "0x80000000", "0x7fffffffffffffffL", "0x8000000000000000L", "4294967296L", "4294967295L", "'a'"};
        int[] due = {0, 1, -1, 2147483647, Integer.MIN_VALUE, -1, 0, 0, -1, 97};
        for (int n = 0; n < numbers.length; n++) {
            SoftController c = Checks.stops(5, "var int i; task t every 1 { i = 1; @fault " + numbers[n] + "; i = 2; }", 3000);
            Checks.same("fault " + numbers[n], c.task(0, 8), due[n]);
            Checks.same("it is over at once", c.value(0, 0), 1);
        }
        Checks.stops(5, "func int f() { @fault 7; return 1; } block k() { var int m; m = f(); } use k x; task t every 1 { x(); }", 3000);
        Checks.same("WORK of it", Checks.stops(5, "task t every 1 { @fault 1 + 2; }", 3000).task(0, 4), 4);
        // The latest FAULT alone is told: another number, place and TICK, and 0 where fault told none.
        String text = "var int n, z; task t every 1 { n++; if n == 2 { fault 77; } if n == 3 { n = n / z; } }";
        SoftController c = Checks.with(text);
        c.scan(5);
        int[] latest = {1, 0, 1, 2, 7, 5, text.indexOf("fault"), 1, 77};
        for (int what = 0; what < 9; what++) {
            Checks.same("task(0, " + what + ")", c.task(0, what), latest[what]);
        }
        c.clear(0);
        Checks.same("it is told still", c.task(0, 5), 5);
        c.scan(1);
        int[] then = {1, 0, 1, 3, 13, 1, text.indexOf("/"), 5, 0};
        for (int what = 0; what < 9; what++) {
            Checks.same("task(0, " + what + ") then", c.task(0, what), then[what]);
        }
    }
}
