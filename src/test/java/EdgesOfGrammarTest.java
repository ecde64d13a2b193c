/** GRAMMAR and the FAULTS 1 and 2 (promises 4 and 5): what can't stand, what ends too early, too many tokens, too many OPEN. */
final class EdgesOfGrammarTest {
    /** Sound Items with all that the GRAMMAR has, the tokens apart by one blank. */
    private static final String[] ITEMS = {
        "var int i , j = 5 , r [ 3 ] , s [ 4 ] = - 7 ;",
        "keep long l = - 'a' ;",
        "var byte b ;",
        "in byte c at 0 ;",
        "out word o at 2 ;",
        "block e ( ) { }",
        "block k ( int p , byte q ) { var int m [ 2 ] = 3 , n ; var long g ; m [ p ] = q ; if p { return ; } n ++ ; }",
        "use k x , y ;",
        "func int f ( int p ) { var int v ; v = p ; return v + 1 ; }",
        "func byte none ( ) { }",
        "task t every 2 { }",
        "task u every 3 after 1 { i = 1 ; r [ i ] . 3 = 0 ; r [ 0 ] += 2 ; j -- ; o . 0 = 1 ; x ( i , 3 ) ; l -= 1 ; l *= 2 ; l /= 3 ; l %= 9 ;"
                + " i &= 1 ; i |= 2 ; i ^= 3 ; i <<= 1 ; i >>= 1 ; i >>>= 1 ; }",
        "task v every 1 { if i { } elif j { i ++ ; } elif 0 { } else { j ++ ; } while i < 3 { i ++ ; continue ; } while 1 { break ; }"
                + " for i = 0 .. j + 1 { } switch i { } switch i { case 1 { } case 2 , 3 .. 5 , - 98 .. - 'a' { } default { } }"
                + " return ; fault i ; }",
        "task w every 1 { i = i ? 1 : j ? 2 : 3 ; i = ( i || j && i | j ^ i & j == i < j << i + j * - ~ ! i ) ; i = ( byte ) now ;"
                + " i = f ( 1 ) + none ( ) + min ( 1 , 2 ) + x . p + x . m [ 1 ] + r [ i ] + c . 3 + r [ 1 ] . 2 + 'a' ; }"};

    public static void main(String[] args) {
        empties();
        endsTooEarly();
        strangers();
        leftOut();
        firstOfBoth();
        mostTokens();
        densestTexts();
        mostOpen();
        openAndThrough();
        Checks.close("EdgesOfGrammarTest");
    }

    private static String joined(String[] parts, int n) {
        StringBuilder all = new StringBuilder();
        for (int i = 0; i < n; i++) {
            all.append(i == 0 ? "" : " ").append(parts[i]);
        }
        return all.toString();
    }

    private static String times(String one, int n) {
        return one.repeat(n);
    }

    /** { } any number of it, [ ] once or not: none is enough. */
    private static void empties() {
        Checks.sound("");
        Checks.sound("block k() {} func int f() {} task t every 1 {} use k x; task u every 1 { x(); if f() {} while 0 {} switch 1 {} }");
        Checks.sound("var int i; task t every 1 { for i = 1 .. 0 {} switch 1 { default {} } switch 1 { case 1 {} } return; }");
        Checks.fault(2, "var int @;");
        Checks.fault(2, "var int a, @;");
        Checks.fault(2, "var int a[@];");
        Checks.fault(2, "var int a = @;");
        Checks.fault(2, "var int @[3];");
        Checks.fault(2, "block k() {} use k @;");
        Checks.fault(2, "block k() {} use k x, @;");
        Checks.fault(2, "task t every @{}");
        Checks.fault(2, "task t every 5 after @{}");
        Checks.fault(2, "task t every 5 after 1 @after 2 {}");
        Checks.fault(2, "task t every 1 { switch 1 { case @{} } }");
        Checks.fault(2, "task t every 1 { switch 1 { case 1, @{} } }");
        Checks.fault(2, "task t every 1 { switch 1 { case 1 .. @{} } }");
        Checks.fault(2, "task t every 1 { switch 1 { case 1 .. 2 @.. 3 {} } }");
        Checks.fault(2, "task t every 1 { switch 1 { default {} @default {} } }");
        Checks.fault(2, "task t every 1 { if @{} }");
        Checks.fault(2, "task t every 1 { if 1 {} else {} @else {} }");
        Checks.fault(2, "task t every 1 { @elif 1 {} }");
        Checks.fault(2, "task t every 1 { while @{} }");
        Checks.fault(2, "task t every 1 { fault @; }");
        Checks.fault(2, "task t every 1 { x(@,1); }");
        Checks.fault(2, "task t every 1 { x(1,@); }");
        Checks.fault(2, "task t every 1 { x[@] = 1; }");
        Checks.fault(2, "block k(@,) {}");
        Checks.fault(2, "block k(@p) {}");
        Checks.fault(2, "block k(int p @int q) {}");
        Checks.fault(2, "func int f() { var int a; a = 1; @var int b; }");
        Checks.fault(2, "func int f() { @keep int a; }");
        Checks.fault(2, "@}");
        Checks.fault(2, "task t every 1 {} @}");
        Checks.fault(2, "@int a;");
        Checks.fault(2, "@i = 1;");
    }

    /** The text's length, if it ends too early: behind every token but an Item's last one. */
    private static void endsTooEarly() {
        for (int n = 0; n < ITEMS.length; n++) {
            String[] tokens = ITEMS[n].split(" ");
            String ahead = joined(ITEMS, n) + " ";
            for (int k = 1; k < tokens.length; k++) {
                Checks.fault(2, ahead + joined(tokens, k) + "@");
                Checks.fault(2, ahead + joined(tokens, k) + " \n // it ends\n\t@");
            }
            Checks.sound(ahead + ITEMS[n]);
        }
    }

    /** A token that can't stand there, ahead of every token: at stands behind in or out, Kind, NAME alone. */
    private static void strangers() {
        for (int n = 0; n < ITEMS.length; n++) {
            String[] tokens = ITEMS[n].split(" ");
            String ahead = joined(ITEMS, n) + " ";
            for (int k = 0; k <= tokens.length; k++) {
                String behind = k < tokens.length ? ITEMS[n].substring(joined(tokens, k).length()) : "";
                boolean stands = behind.startsWith(" at ");
                String stranger = stands ? " at @" + behind.substring(1) : " @at" + (behind.startsWith(" ") ? "" : " ") + behind;
                Checks.fault(2, ahead + joined(tokens, k) + stranger);
                Checks.fault(1, ahead + joined(tokens, k) + " @#" + behind);
            }
        }
    }

    /** An Item with one of its signs ( ) { } ; = : left out is a FAULT 2 at the token behind, or at the end. */
    private static void leftOut() {
        Checks.fault(2, "var int a @var int b;");
        Checks.fault(2, "in byte a @0;");
        Checks.fault(2, "block k @{ }");
        Checks.fault(2, "block k( @{ }");
        Checks.fault(2, "block k() @}");
        Checks.fault(2, "block k() { @");
        Checks.fault(2, "task t every 1 @i = 1; }");
        Checks.fault(2, "task t every 1 { i @1; }");
        Checks.fault(2, "task t every 1 { i@; }");
        Checks.fault(2, "task t every 1 { i[0]@; }");
        Checks.fault(2, "task t every 1 { i.0@; }");
        Checks.fault(2, "task t every 1 { i @}");
        Checks.fault(2, "task t every 1 { i = 1 ? 2 @3; }");
        Checks.fault(2, "task t every 1 { i = (1 @; }");
        Checks.fault(2, "task t every 1 { i = 1@); }");
        Checks.fault(2, "task t every 1 { i = (int @1); }");
        Checks.fault(2, "task t every 1 { i = r[1 @; }");
        Checks.fault(2, "task t every 1 { i = f(1 @; }");
        Checks.fault(2, "task t every 1 { for i @1 .. 2 {} }");
        Checks.fault(2, "task t every 1 { for i = 1 @2 {} }");
        Checks.fault(2, "task t every 1 { switch 1 @case 1 {} }");
        Checks.fault(2, "task t every 1 { break @}");
        Checks.fault(2, "task t every 1 { continue @}");
        Checks.fault(2, "task t every 1 { x() @}");
    }

    /** If there is one of 1 or 2, the first place at which there is; FAULTS 3 to 5 ahead of it do not matter. */
    private static void firstOfBoth() {
        Checks.fault(1, "@# ;");
        Checks.fault(2, "@; #");
        Checks.fault(1, "var int a = @'; ; ;");
        Checks.fault(2, "var int a = @; '");
        Checks.fault(2, "var byte a = 1000; var byte a; use q r; task t every 0 { a = b; @");
        Checks.fault(1, "var byte a = 1000; var byte a; use q r; task t every 0 { a = b; @\"");
        Checks.fault(1, "var int a[201]; @thirteen_bytes");
        Checks.fault(2, "@break;");
    }

    /** The 1501st token can't stand, whatever it is, but for what is no token; the text's end is none. */
    private static void mostTokens() {
        String head = "var int x; task t every 1 { ";
        // 4 tokens, then 5, and the last } : 1490 are left for Stats.
        String full = head + times("x++;", 496) + "return;}";
        Checks.sound(full);
        Checks.sound(full + " \n\t\r // and a note");
        Checks.fault(2, full + "@var int y;");
        Checks.fault(2, full + " // a note\n @5");
        Checks.fault(2, full + "@twelve_chars");
        Checks.fault(1, full + "@thirteen_bytes");
        Checks.fault(1, full + "@5x");
        Checks.fault(1, full + "@'");
        Checks.fault(1, full + " @\"");
        Checks.fault(2, full + "@; \"");
        String open = head + times("x++;", 497);
        Checks.fault(2, open + "@}");
        Checks.fault(2, open + "@");
        Checks.fault(2, open + "@x++;}");
        Checks.fault(2, head + times("x++;", 496) + "x @}");
        // Among tokens ahead of it FAULTS 3 to 5 do not matter, one of 2 does.
        Checks.fault(2, head.replace("every 1", "every 0") + times("x++;", 497) + "@}");
        Checks.fault(2, head + "@;" + times("x++;", 520));
    }

    private static long lastNumber(String text) {
        SoftController c = Checks.with(text);
        c.watchdog(5000);
        c.scan(1);
        Checks.same("no FAULT of a run", c.task(0, 5), 0);
        return c.value(0, 0);
    }

    /** Texts with nearly 1500 tokens of one sort run up to their last Stat. */
    private static void densestTexts() {
        String head = "var int x, y, r[3]; block k() {} use k u; func int f() {} task t every 1 { ";
        String[] stats = {"y ++ ;", "r [ 1 ] ++ ;", "r [ 1 ] . 2 = 1 ;", "y . 0 = 1 ;", "y = 1 ;", "if 1 { }", "while 0 { }",
            "for y = 1 .. 2 { }", "u ( ) ;", "switch 1 { }", "switch 1 { case 1 { } }", "y = 1 ? 2 : 3 ;", "y = 1 && 2 || 3 ;",
            "y = - ~ ! ( int ) 1 ;", "y = f ( ) ;", "y = 1 + 2 * 3 ;", "r [ 0 ] = r [ 1 ] + r [ 2 ] . 0 ;"};
        for (String stat : stats) {
            int often = (1500 - 45) / stat.split(" ").length;
            String all = times(stat.replace(" ", ""), often).replace("while0", "while 0").replace("fory", "for y")
                    .replace("if1", "if 1").replace("switch1", "switch 1").replace("case1", "case 1");
            Checks.same(often + " times " + stat, lastNumber(head + all + "x=77;}"), 77);
        }
        StringBuilder labels = new StringBuilder("0");
        for (int i = 1; i < 720; i++) {
            labels.append(',').append(i);
        }
        Checks.same("720 Labels", lastNumber("var int x = 719; task t every 1 { switch x { case " + labels + " { x = 77; } } }"), 77);
        Checks.same("one besides them", lastNumber("var int x = 720; task t every 1 { switch x { case " + labels + " { x = 77; } } }"), 720);
        // Ten operators wait at each of 21 open places, and seven calls within one another do that.
        String ten = "0||1&&0|0^1&0==2<1<<1+1*";
        String deep = times(ten + "(", 21) + "f(n-1)" + times(")", 21);
        int all = 0;
        for (int n = 1; n <= 7; n++) {
            for (int i = 0; i < 21; i++) {
                all = ofTen(all);
            }
            all = 30 * n + all;
        }
        Checks.same("waiting operators", lastNumber("var int x; func int f(int n) { if n == 0 { return 0; } return 30 * n + (" + deep + "); }"
                + " task t every 1 { x = f(7); }"), all);
        // At most 24 places are open in a task, so 240 operators wait.
        for (int first = 0; first < 2; first++) {
            int inner = first;
            for (int i = 0; i < 24; i++) {
                inner = ofTen(inner);
            }
            Checks.same("240 that wait", lastNumber("var int x; task t every 1 { x = " + times(ten + "(", 23) + ten + first + times(")", 23) + "; }"), inner);
        }
        String sums = times("1+2*(", 20) + "f(n-1)" + times(")", 20);
        long due = 0;
        for (int n = 0; n < 7; n++) {
            for (int i = 0; i < 20; i++) {
                due = (int) (1 + 2 * due);
            }
        }
        Checks.same("waiting numbers", lastNumber("var int x; func int f(int n) { if n == 0 { return 0; } return " + sums + "; }"
                + " task t every 1 { x = f(7); }"), due);
    }

    /** What 0||1&&0|0^1&0==2<1<<1+1* and a number come to: 1 for 0, 0 for 1. */
    private static int ofTen(int number) {
        return 2 < 1 << 1 + number ? 0 : 1;
    }

    /** With each way to be OPEN: 24 are sound (the task's { is one), the 25th can't stand. */
    private static void mostOpen() {
        String head = "var int x[3], y; func int f(int p) { return p; } block k(int p) { var int m[2]; } use k u; task t every 1 { ";
        String[][] ways = {{"(", ")"}, {"-", ""}, {"~", ""}, {"!", ""}, {"(int)", ""}, {"(long)", ""}, {"f(", ")"}, {"abs(", ")"},
            {"min(1,", ")"}, {"x[", "]"}, {"u.m[", "]"}, {"1?", ":0"}, {"1?0:", ""}, {"1+(", ")"}, {"1?(", "):0"}};
        String[] opening = {"@(", "@-", "@~", "@!", "@(int)", "@(long)", "f@(", "abs@(", "min@(1,", "x@[", "u.m@[", "1@?", "1@?0:",
            "1+@(", "1@?("};
        int[] opens = {1, 1, 1, 1, 1, 1, 1, 1, 1, 1, 1, 1, 1, 1, 2};
        for (int n = 0; n < ways.length; n++) {
            int most = 23 / opens[n];
            String open = times(ways[n][0].equals("-") ? "- " : ways[n][0], most);
            String close = times(ways[n][1], most);
            String wide = ways[n][0].equals("(long)") ? "fault " : "y = ";
            Checks.sound(head + wide + open + "1" + close + "; }");
            String more = opens[n] == 1 ? opening[n] : "1?@(";
            Checks.fault(2, head + wide + open + more + "1" + ways[n][1] + close + "; }");
        }
        String[][] bodies = {{"if 1 {", "}"}, {"if 0 {} elif 1 {", "}"}, {"if 0 {} else {", "}"}, {"while 1 {", "break; }"},
            {"for y = 1 .. 2 {", "}"}};
        for (String[] body : bodies) {
            Checks.sound(head + times(body[0], 23) + "y++;" + times(body[1], 23) + "}");
            String more = body[0].replaceFirst("\\{", "@{");
            Checks.fault(2, head + times(body[0], 23) + more + body[1] + times(body[1], 23) + "}");
        }
        Checks.sound(head + times("switch 1 { case 1 {", 11) + "if 1 {}" + times("}}", 11) + "}");
        Checks.fault(2, head + times("switch 1 { case 1 {", 11) + "switch 1 { case 1 @{} }" + times("}}", 11) + "}");
        Checks.fault(2, head + times("switch 1 { case 1 {", 11) + "if 1 { switch 1 @{} }" + times("}}", 11) + "}");
        Checks.fault(2, head + times("if 1 {", 23) + "if 1 @{ #" + times("}", 25));
        Checks.fault(1, head + times("if 1 {", 23) + "if 1 @# {" + times("}", 25));
        Checks.fault(2, head + times("if 1 {", 23) + "y = @(1);" + times("}", 24));
        Checks.fault(2, head + times("if 1 {", 23) + "u@(1);" + times("}", 24));
        Checks.fault(2, head + times("if 1 {", 23) + "x@[1] = 1;" + times("}", 24));
    }

    /** What is closed or through is not OPEN any more; a cast's ( is until its operand is through. */
    private static void openAndThrough() {
        String head = "var int x[3], y; func int f(int p) { return p; } block k(int p) {} use k u; task t every 1 { ";
        String at22 = head + times("if 1 {", 22);
        String end22 = times("}", 23);
        // One more may be OPEN: each of these opens one at a time.
        for (String one : new String[] {"y = (1) + (2);", "y = -1 - -2;", "y = (int) 1 + (int) 2;", "y = x[1] + x[2];", "y = f(1) + f(2);",
            "y = 1 ? 2 : 3; y = 1 ? 2 : 3;", "u(1); u(2);", "x[1] = x[2];", "if 1 {} elif 2 {} else {}", "switch 1 {} switch 2 {}",
            "y = -y + ~y;"}) {
            Checks.sound(at22 + one + end22);
        }
        // Two at a time are one too many.
        for (String two : new String[] {"y = (@(1));", "y = - @-1;", "y = -@(1);", "y = (@-1);", "y = (int) @(1);", "y = (int) @-1;",
            "y = (int) @(int) 1;", "y = -@(int) 1;", "y = x[@(1)];", "y = x[@-1];", "y = f(@(1));", "y = f(x@[1]);", "y = 1 ? @(2) : 3;",
            "y = 1 ? 2 : @(3);", "y = 1 ? 2 : 3 @? 4 : 5;", "y = 1 ? 2 @? 3 : 4 : 5;", "y = (1 @? 2 : 3);", "u(@-1);", "x[@(1)] = 1;",
            "y = -x@[1];", "y = -f@(1);", "y = (int) x@[1];", "if 1 { y = @-1; }", "switch 1 { case 1 @{} }"}) {
            Checks.fault(2, at22 + two + end22);
        }
        // A sign's operand is through ahead of the next operator; a ? is through with its third part alone.
        Checks.sound(at22 + "y = -1 + (2) * ~3 - (int) 4 + f(5);" + end22);
        Checks.sound(at22 + "y = (1) ? 2 : 3;" + end22);
        Checks.sound(at22 + "y = -1 ? 2 : 3;" + end22);
        Checks.sound(at22 + "u(1); y = 1 ? 2 : 3;" + end22);
        Checks.sound(at22 + "switch 1 {} y = -1;" + end22);
        // The - of a Const is no sign ahead of an operand.
        Checks.sound(head + times("if 1 {", 21) + "switch 1 { case -1 .. -1 {} }" + times("}", 22));
    }
}
