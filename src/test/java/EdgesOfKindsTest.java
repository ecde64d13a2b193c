/** FAULT 4 (promises 4 and 5): rows, in variables, bits, E's that are TOO WIDE, indexes, and how many E's a call has. */
final class EdgesOfKindsTest {
    private static final String[] KINDS = {"byte", "short", "word", "int", "long"};
    private static final int BYTE = 0;
    private static final int SHORT = 1;
    private static final int WORD = 2;
    private static final int INT = 3;
    private static final int LONG = 4;
    private static final long[] LEAST = {-128, -32768, 0, Integer.MIN_VALUE, Long.MIN_VALUE};
    private static final long[] MOST = {127, 32767, 65535, Integer.MAX_VALUE, Long.MAX_VALUE};
    /** A variable, a row, an in and an out variable of each KIND. */
    private static final String TOLD = "var byte v0, r0[2]; var short v1, r1[2]; var word v2, r2[2]; var int v3, r3[2]; var long v4, r4[2];"
            + " in byte c0 at 0; in short c1 at 0; in word c2 at 0; in int c3 at 0; in long c4 at 0;"
            + " out byte o0 at 0; out short o1 at 0; out word o2 at 0; out int o3 at 0; out long o4 at 0;"
            + " func byte f0(byte a) { return a; } func short f1(short a) { return a; } func word f2(word a) { return a; }"
            + " func int f3(int a) { return a; } func long f4(long a) { return a; }"
            + " block k(byte a, short b, word c, int d, long e) { var byte m0[2]; var short m1[2]; var word m2[2]; var int m3[2]; var long m4[2]; }"
            + " use k x; ";

    public static void main(String[] args) {
        kindsOfPlaces();
        constants();
        noConstants();
        kindsOfOperators();
        kindsOfOthers();
        bits();
        inVariables();
        loops();
        indexes();
        numbersOfArguments();
        Checks.close("EdgesOfKindsTest");
    }

    private static boolean hasPlace(int from, int to) {
        switch (from) {
            case BYTE: return to == BYTE || to == SHORT || to == INT || to == LONG;
            case SHORT: return to == SHORT || to == INT || to == LONG;
            case WORD: return to == WORD || to == INT || to == LONG;
            case INT: return to == INT || to == LONG;
            default: return to == LONG;
        }
    }

    private static void judged(boolean sound, String text) {
        if (sound) {
            Checks.sound(text.replace("@", ""));
        } else {
            Checks.fault(4, text);
        }
    }

    /** An E comes to all that can be of a KIND: at the = , of for too, at the E's first token in a call and behind return. */
    private static void comesTo(String e, int to, boolean sound) {
        String task = TOLD + "task t every 1 { ";
        judged(sound, task + "v" + to + " @= " + e + "; }");
        judged(sound, task + "r" + to + "[1] @= " + e + "; }");
        judged(sound, task + "o" + to + " @= " + e + "; }");
        judged(sound, task + "for v" + to + " @= " + e + " .. 1 {} }");
        judged(sound, task + "fault f" + to + "(@" + e + "); }");
        String[] brought = {"0", "0", "0", "0", "0"};
        brought[to] = "@" + e;
        judged(sound, task + "x(" + String.join(", ", brought) + "); }");
        judged(sound, TOLD + "func " + KINDS[to] + " g() { return @" + e + "; }");
        judged(sound, TOLD + "block g(" + KINDS[to] + " p) { p @= " + e + "; }");
        judged(sound, TOLD + "func int g() { var " + KINDS[to] + " p[2]; p[0] @= " + e + "; }");
    }

    private static void kindsOfPlaces() {
        for (int from = 0; from < 5; from++) {
            for (int to = 0; to < 5; to++) {
                for (String e : new String[] {"vK", "rK[0]", "cK", "oK", "x.mK[1]", "fK(1)", "(vK)", "((rK[1]))"}) {
                    comesTo(e.replace("K", "" + from), to, hasPlace(from, to));
                }
                comesTo("(" + KINDS[from] + ") 1", to, hasPlace(from, to));
                comesTo("(" + KINDS[from] + ") v4", to, hasPlace(from, to));
                // Whatever it is CUT to be, op= takes every KIND.
                Checks.sound(TOLD + "task t every 1 { vT += vF; rT[0] <<= vF; oT /= vF; vT >>>= 5L; }".replace("T", "" + to).replace("F", "" + from));
            }
        }
    }

    private static String literal(long v, boolean wide) {
        String hex = wide ? "0x" + Long.toHexString(v) + "L" : "0x" + Integer.toHexString((int) v);
        return v < 0 && v != LEAST[INT] && v != LEAST[LONG] ? v + (wide ? "L" : "") : v < 0 ? hex : v + (wide ? "L" : "");
    }

    /** A Const (perhaps in brackets) that the KIND can have is not TOO WIDE, also one of a long. */
    private static void constants() {
        for (int to = 0; to < 5; to++) {
            for (int of = 0; of < 5; of++) {
                for (long v : new long[] {LEAST[of], MOST[of], LEAST[of] - 1, MOST[of] + 1, 0, -1, 1}) {
                    boolean fits = v >= LEAST[to] && v <= MOST[to];
                    boolean isInt = v >= LEAST[INT] && v <= MOST[INT];
                    comesTo(literal(v, true), to, fits);
                    comesTo("(" + literal(v, true) + ")", to, fits);
                    if (isInt) {
                        comesTo(literal(v, false), to, fits);
                        comesTo("((" + literal(v, false) + "))", to, fits);
                    }
                }
            }
        }
        comesTo("'a'", BYTE, true);
        comesTo("('~')", BYTE, true);
        comesTo("-'a'", BYTE, true);
        comesTo("-'a'", WORD, false);
        comesTo("-0", WORD, true);
        comesTo("-0L", WORD, true);
        comesTo("0xff", BYTE, false);
        comesTo("0xffffffff", BYTE, true);
        comesTo("0xffffffff", WORD, false);
        comesTo("0xffffffffL", INT, false);
        comesTo("-0x80000000", INT, true);
        comesTo("-0x80000000", SHORT, false);
    }

    /** What is no Const, though its number could be had: signs ahead of brackets, two signs, ~ and ! , operators, ? , casts. */
    private static void noConstants() {
        for (String e : new String[] {"-(5)", "- -5", "~5", "!5", "-(-5)", "5 + 0", "(5) + 0", "5 * 1", "5 << 0", "1 == 1", "1 && 1", "1 ? 5 : 5",
            "(1 ? 5 : 5)", "(int) 5", "((int) 5)", "abs(5)", "now", "v0.0", "-v0", "~v0", "v0 + v0", "v0 << 1", "v0 ? v0 : v0", "min(v0, v0)"}) {
            comesTo(e, BYTE, false);
            comesTo(e, SHORT, false);
            comesTo(e, WORD, false);
            comesTo(e, INT, true);
            comesTo(e, LONG, true);
        }
        comesTo("-(5L)", INT, false);
        comesTo("5L + 0", INT, false);
        comesTo("(long) 5", INT, false);
        comesTo("1 ? 5L : 5", INT, false);
        comesTo("-(5L)", LONG, true);
    }

    private static void isOf(String e, int kind) {
        String task = TOLD + "task t every 1 { ";
        judged(kind != LONG, task + "v3 @= " + e + "; }");
        judged(hasPlace(kind, SHORT), task + "v1 @= " + e + "; }");
        judged(hasPlace(kind, WORD), task + "v2 @= " + e + "; }");
        judged(kind != LONG, task + "r3[@" + e + "] = 1; }");
    }

    private static int widest(int one, int two) {
        return one == LONG || two == LONG ? LONG : INT;
    }

    private static void kindsOfOperators() {
        for (int left = 0; left < 5; left++) {
            for (int right = 0; right < 5; right++) {
                String a = "v" + left;
                String b = "v" + right;
                for (String sign : new String[] {"+", "-", "*", "/", "%", "&", "|", "^"}) {
                    isOf(a + sign + b, widest(left, right));
                }
                for (String sign : new String[] {"<<", ">>", ">>>"}) {
                    isOf(a + sign + b, widest(left, INT));
                }
                for (String sign : new String[] {"==", "!=", "<", "<=", ">", ">=", "&&", "||"}) {
                    isOf(a + sign + b, INT);
                }
                isOf("1?" + a + ":" + b, widest(left, right));
                isOf(a + "?1:2", INT);
                isOf("min(" + a + "," + b + ")", widest(left, right));
                isOf("max(" + a + "," + b + ")", widest(left, right));
                isOf("rol(" + a + "," + b + ")", widest(left, INT));
                isOf("ror(" + a + "," + b + ")", widest(left, INT));
                isOf("(" + KINDS[left] + ")" + b, left);
            }
        }
    }

    private static void kindsOfOthers() {
        for (int kind = 0; kind < 5; kind++) {
            String a = "v" + kind;
            isOf(a, kind);
            isOf("-" + a, widest(kind, INT));
            isOf("~" + a, widest(kind, INT));
            isOf("!" + a, INT);
            isOf("abs(" + a + ")", widest(kind, INT));
            isOf("rev(" + a + ")", widest(kind, INT));
            isOf("ones(" + a + ")", INT);
            isOf("lead(" + a + ")", INT);
            isOf("f" + kind + "(1)", kind);
            isOf(a + ".0", INT);
            isOf("r" + kind + "[0].0", INT);
            isOf("x.m" + kind + "[0]", kind);
            isOf("1+" + a + "<<1", widest(kind, INT));
            isOf("1<<1+" + a, INT);
            isOf("-" + a + "&1", widest(kind, INT));
        }
        isOf("now", INT);
        isOf("1+'a'", INT);
        isOf("1+1L", LONG);
        isOf("1+0x1L", LONG);
    }

    /** For a bit no E is TOO WIDE; any sign but = is a FAULT, at the sign. */
    private static void bits() {
        for (int kind = 0; kind < 5; kind++) {
            for (String place : new String[] {"vK.0", "rK[1].7", "oK.3"}) {
                String bit = place.replace("K", "" + kind);
                for (int from = 0; from < 5; from++) {
                    Checks.sound(TOLD + "task t every 1 { " + bit + " = v" + from + "; " + bit + " = 1000L; }");
                }
                for (String sign : new String[] {"+=", "-=", "*=", "/=", "%=", "&=", "|=", "^=", "<<=", ">>=", ">>>="}) {
                    Checks.fault(4, TOLD + "task t every 1 { " + bit + " @" + sign + " 1; }");
                    Checks.fault(4, TOLD + "task t every 1 { " + bit + " @" + sign + " q; }");
                }
                Checks.fault(4, TOLD + "task t every 1 { " + bit + " @++; }");
                Checks.fault(4, TOLD + "task t every 1 { " + bit + " @--; }");
            }
        }
    }

    /** An in variable on the left, at the NAME, whatever is behind it. */
    private static void inVariables() {
        for (int kind = 0; kind < 5; kind++) {
            for (String rest : new String[] {"= 1", "+= 1", ">>>= 1", "++", "--", ".0 = 1", ".99 = 1", "= q", "[0] = 1", ".0 += 1"}) {
                Checks.fault(4, TOLD + "task t every 1 { @c" + kind + " " + rest + "; }");
            }
            Checks.fault(4, TOLD + "task t every 1 { for @c" + kind + " = q .. q {} }");
            Checks.sound(TOLD + "task t every 1 { v4 = c" + kind + " + c" + kind + ".7; }");
        }
    }

    /** for of what is no single variable, parameter, local, at the NAME. */
    private static void loops() {
        for (String name : new String[] {"r3", "c3", "x", "k", "f3", "t", "abs"}) {
            Checks.fault(4, TOLD + "task t every 1 { for @" + name + " = 1 .. 2 {} }");
        }
        for (String name : new String[] {"v0", "v1", "v2", "v3", "v4", "o0", "o4"}) {
            Checks.sound(TOLD + "task t every 1 { for " + name + " = 1 .. v4 {} }");
        }
        Checks.sound("block b(int p) { var int l; for p = 1 .. 2 {} for l = 1 .. 2 {} }");
        Checks.fault(4, "block b(int p) { var int l[2]; for @l = 1 .. 2 {} }");
        Checks.fault(4, TOLD + "block b(int v3) { var int v1[2]; for v3 = 1 .. 2 {} for @v1 = 1 .. 2 {} }");
    }

    /** A long as an index, at its first token; every other KIND will do. */
    private static void indexes() {
        for (int kind = 0; kind < 5; kind++) {
            for (String stat : new String[] {"r3[@E] = 1;", "r3[@E]++;", "r3[@E].0 = 1;", "fault r3[@E];", "fault x.m3[@E];", "fault r3[@E].0;"}) {
                for (String e : new String[] {"vK", "(vK)", "rK[0]", "cK", "x.mK[0]", "(" + KINDS[kind] + ") 1"}) {
                    judged(kind != LONG, TOLD + "task t every 1 { " + stat.replace("E", e.replace("K", "" + kind)) + " }");
                }
            }
        }
        Checks.fault(4, TOLD + "task t every 1 { r3[@0L] = 1; }");
        Checks.fault(4, TOLD + "task t every 1 { r3[@-1L] = 1; }");
        Checks.fault(4, TOLD + "task t every 1 { r3[@(0L)] = 1; }");
        Checks.fault(4, TOLD + "task t every 1 { r3[@0 + 0L] = q; }");
        Checks.fault(4, TOLD + "task t every 1 { fault r3[r3[@v4]]; }");
        Checks.sound(TOLD + "task t every 1 { r3[v4 == 0] = r3[!v4] + r3[1 << v4] + r3[lead(v4)] + r3[v4.0]; }");
    }

    /** Another number of E's than there are parameters, at the NAME, found behind the ) . */
    private static void numbersOfArguments() {
        for (int has = 0; has <= 6; has++) {
            StringBuilder parameters = new StringBuilder();
            for (int i = 0; i < has; i++) {
                parameters.append(i == 0 ? "" : ", ").append("int p").append(i);
            }
            String told = "func int g(" + parameters + ") {} block b(" + parameters + ") {} use b y; ";
            for (int given = 0; given <= 8; given++) {
                String e = String.join(", ", "1 ".repeat(given).split(" "));
                judged(given == has, told + "task t every 1 { fault @g(" + e + "); }");
                judged(given == has, told + "task t every 1 { @y(" + e + "); }");
            }
            // What is wrong within the E's is found first, also in one that is too many.
            Checks.fault(3, told + "task t every 1 { fault g(" + "1, ".repeat(has) + "@q); }");
            Checks.fault(3, told + "task t every 1 { y(" + "1, ".repeat(has) + "@q); }");
            Checks.fault(4, told + "task t every 1 { @y(" + "1, ".repeat(has) + "5L); q = 1; }");
        }
        String[] eight = {"abs", "rev", "ones", "lead", "min", "max", "rol", "ror"};
        for (int n = 0; n < 8; n++) {
            int has = n < 4 ? 1 : 2;
            for (int given = 0; given <= 3; given++) {
                String e = String.join(", ", "1 ".repeat(given).split(" "));
                judged(given == has, "task t every 1 { fault @" + eight[n] + "(" + e + "); }");
            }
            Checks.fault(3, "task t every 1 { fault " + eight[n] + "(1, 1, @q); }");
        }
    }
}
