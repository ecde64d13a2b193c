import java.util.Random;

/** E's (promise 6): of each two operators the stronger one is worked first, of one strength the left one; signs and casts bind stronger. */
final class StrengthsTest {
    private static final String[] SIGNS = {"||", "&&", "|", "^", "&", "==", "!=", "<", "<=", ">", ">=", "<<", ">>", ">>>", "+", "-", "*", "/", "%"};
    private static final int[] STRENGTHS = {1, 2, 3, 4, 5, 6, 6, 7, 7, 7, 7, 8, 8, 8, 9, 9, 10, 10, 10};
    private static final int[][] NUMBERS = {{1, 2, 3}, {2, 1, 3}, {3, 2, 1}, {5, 5, 1}, {7, 3, 2}, {-8, 2, 1}, {6, 3, 5}, {0, 1, 1}, {1, 0, 2}, {2, 2, 0},
        {-1, -2, 4}, {12, 10, 9}, {1, 1, 1}, {0, 0, 0}, {100, 7, 5}, {-5, 0, 0}};

    public static void main(String[] args) {
        pairs();
        chains();
        signs();
        choices();
        Checks.close("StrengthsTest");
    }

    /** What operands with operators between come to; throws ArithmeticException by 0. */
    private static int value(int[] operands, int[] operators, int first, int last) {
        if (first == last) {
            return operands[first];
        }
        int weakest = first;
        for (int i = first; i < last; i++) {
            if (STRENGTHS[operators[i]] <= STRENGTHS[operators[weakest]]) {
                weakest = i;
            }
        }
        int left = value(operands, operators, first, weakest);
        String sign = SIGNS[operators[weakest]];
        if (sign.equals("||")) {
            return left != 0 || value(operands, operators, weakest + 1, last) != 0 ? 1 : 0;
        }
        if (sign.equals("&&")) {
            return left != 0 && value(operands, operators, weakest + 1, last) != 0 ? 1 : 0;
        }
        return worked(sign, left, value(operands, operators, weakest + 1, last));
    }

    private static int worked(String sign, int a, int b) {
        switch (sign) {
            case "|": return a | b;
            case "^": return a ^ b;
            case "&": return a & b;
            case "==": return a == b ? 1 : 0;
            case "!=": return a != b ? 1 : 0;
            case "<": return a < b ? 1 : 0;
            case "<=": return a <= b ? 1 : 0;
            case ">": return a > b ? 1 : 0;
            case ">=": return a >= b ? 1 : 0;
            case "<<": return a << b;
            case ">>": return a >> b;
            case ">>>": return a >>> b;
            case "+": return a + b;
            case "-": return a - b;
            case "*": return a * b;
            case "/": return a / b;
            default: return a % b;
        }
    }

    /** One E over variables v0, v1 and so on, which have the operands. */
    private static void compare(SoftController c, String e, int[] operands, int[] operators) {
        for (int i = 0; i < operands.length; i++) {
            c.poke(0, i, operands[i]);
        }
        c.scan(1);
        boolean stopped = c.clear(0);
        try {
            int due = value(operands, operators, 0, operators.length);
            Checks.same(e + " of " + java.util.Arrays.toString(operands), c.value(1, 0), due);
            Checks.same(e + " STOPPED", stopped, false);
        } catch (ArithmeticException byZero) {
            Checks.same(e + " STOPPED", stopped, true);
        }
    }

    private static SoftController with(int[] operators) {
        StringBuilder e = new StringBuilder("v[0]");
        for (int i = 0; i < operators.length; i++) {
            e.append(SIGNS[operators[i]]).append("v[").append(i + 1).append("]");
        }
        return Checks.with("var int v[" + (operators.length + 1) + "], r; task t every 1 { r=" + e + "; }");
    }

    private static void pairs() {
        for (int one = 0; one < SIGNS.length; one++) {
            for (int two = 0; two < SIGNS.length; two++) {
                int[] operators = {one, two};
                SoftController c = with(operators);
                for (int[] operands : NUMBERS) {
                    compare(c, "a " + SIGNS[one] + " b " + SIGNS[two] + " c", operands, operators);
                }
            }
        }
    }

    private static void chains() {
        Random random = new Random(7);
        for (int n = 0; n < 1500; n++) {
            int[] operators = new int[2 + random.nextInt(12)];
            for (int i = 0; i < operators.length; i++) {
                operators[i] = random.nextInt(SIGNS.length);
            }
            SoftController c = with(operators);
            for (int k = 0; k < 6; k++) {
                int[] operands = new int[operators.length + 1];
                for (int i = 0; i < operands.length; i++) {
                    operands[i] = random.nextInt(9) - 2;
                }
                compare(c, "chain " + n, operands, operators);
            }
        }
    }

    /** Signs ahead of an operand and casts take that operand alone. */
    private static void signs() {
        String told = "var int a = 5; var byte b = 100; var long l = 7;";
        Object[][] rows = {{"-a + 1", -4L}, {"-a * 2", -10L}, {"~a + 1", -5L}, {"~a & 3", 2L}, {"!a + 1", 1L}, {"!a == 0", 1L}, {"!(a == 0)", 1L}, {"-a << 1", -10L},
            {"-(a << 1)", -10L}, {"~a << 1", -12L}, {"~(a << 1)", -11L}, {"(byte) a * 100", 500L}, {"(byte) (a * 100)", -12L}, {"(byte) b + b", 200L},
            {"(byte) (b + b)", -56L}, {"(byte) -a - 1", -6L}, {"-(byte) 128", 128L}, {"(word) -a >> 1", 32765L}, {"(word) (-a >> 1)", 65533L},
            {"!(byte) 256", 1L}, {"(byte) !256", 0L}, {"-l % 4", -3L}, {"- -a", 5L}, {"-~a", 6L}, {"~-a", 4L}, {"!!a", 1L}, {"!-a", 0L}, {"(int) l << 31 << 1", 0L},
            {"l << 31 << 1", 30064771072L}, {"-a.0", -1L}, {"!a.1", 1L}, {"(byte) a.2 + 1", 2L}, {"~abs(-a) * 2", -12L}};
        for (Object[] row : rows) {
            Checks.worked(told, (String) row[0], (Long) row[1]);
        }
    }

    /** ? is weaker than all operators, and its third part goes as far as can be. */
    private static void choices() {
        Object[][] rows = {{"1 || 0 ? 2 : 3", 2L}, {"0 || 0 ? 2 : 3", 3L}, {"1 + 0 ? 2 : 3", 2L}, {"1 ? 2 : 3 + 10", 2L}, {"0 ? 2 : 3 + 10", 13L}, {"(0 ? 2 : 3) + 10", 13L},
            {"(1 ? 2 : 3) + 10", 12L}, {"0 ? 1 : 0 ? 2 : 3", 3L}, {"0 ? 1 : 1 ? 2 : 3", 2L}, {"1 ? 1 : 1 ? 2 : 3", 1L}, {"1 ? 0 ? 1 : 2 : 3", 2L}, {"1 ? 1 ? 1 : 2 : 3", 1L},
            {"0 ? 1 ? 1 : 2 : 3", 3L}, {"1 ? 2 || 0 : 0", 1L}, {"-1 ? 2 : 3", 2L}, {"!1 ? 2 : 3", 3L}, {"1 == 2 ? 2 : 3", 3L}, {"0x100000000L ? 1 : 2", 1L},
            {"1 ? -1 : 0xffffffffL", -1L}, {"0 ? -1 : 0xffffffffL", 4294967295L}, {"(1 ? 2147483647 : 1L) + 1", 2147483648L}, {"(1 ? 2147483647 : 1) + 1", -2147483648L}};
        for (Object[] row : rows) {
            Checks.worked("", (String) row[0], (Long) row[1]);
        }
    }
}
