import java.util.Random;

/** Rough texts and arguments: whatever comes, only the exceptions of the document are thrown. */
final class RoughTest {
    private static final String[] PIECES = ("var keep in out at block use func task every after byte short word int long if elif else"
            + " while for switch case default break continue return fault now ( ) { } [ ] ; , . .. ? : = += -= *= /= %= &= |= ^= <<= >>="
            + " >>>= ++ -- || && | ^ & == != < <= > >= << >> >>> + - * / % ~ ! a b x k f t abs min 0 1 2 3 7 8 200 201 0x7f 5L 'a'").split(" ");
    private static final String SOUND = "var byte a = 3; var int b[3]; in byte c at 0; out word o at 2; var long l; func int f(byte p) { var int v[9];"
            + " v[p & 7] = p; if p > 3 { return f((byte) (p - 1)) + v[p]; } return p / (p - 1); } block k(byte p) { var int r[2]; r[p & 1] += b[p]; }"
            + " use k x, y; task t every 1 { a++; x(a); for l = a .. a + 5 { b[1] += f(a); if b[1] > 99 { break; } } switch a { case 1 .. 5 { o++; }"
            + " default { y(1); l = x.r[0] ? -l : ~l >>> a; } } while o.3 { o -= 1; } }";

    public static void main(String[] args) {
        Random random = new Random(20261116);
        for (int n = 0; n < 4000; n++) {
            SoftController c = new SoftController();
            for (int text = 0; text < 3; text++) {
                Checks.feed(c, n % 3 == 0 ? soup(random) : n % 3 == 1 ? spoilt(random) : noise(random));
                oneLoad(c, random);
            }
            for (int call = 0; call < 60; call++) {
                oneCall(c, random, number(random), number(random), number(random));
            }
            Checks.same("object " + n, 0, 0);
        }
        Checks.close("RoughTest");
    }

    private static void oneLoad(SoftController c, Random random) {
        int bytes = c.count(9);
        int fault = c.load(random.nextBoolean());
        int place = c.place();
        if (fault < 0 || fault > 5 || (fault == 0) != (place == -1) || place > bytes) {
            Checks.fail("load answered " + fault + ", place " + place);
        }
        c.scan(2);
    }

    private static String soup(Random random) {
        StringBuilder text = new StringBuilder(random.nextBoolean() ? "var int a, b[3]; task t every 1 { " : "");
        for (int n = random.nextInt(60); n > 0; n--) {
            text.append(PIECES[random.nextInt(PIECES.length)]).append(random.nextInt(4) == 0 ? "" : " ");
        }
        return text.toString();
    }

    private static String spoilt(Random random) {
        StringBuilder text = new StringBuilder(SOUND);
        for (int n = random.nextInt(4); n > 0; n--) {
            int at = random.nextInt(text.length());
            if (random.nextBoolean()) {
                text.deleteCharAt(at);
            } else {
                text.insert(at, PIECES[random.nextInt(PIECES.length)]);
            }
        }
        return text.toString();
    }

    private static String noise(Random random) {
        StringBuilder text = new StringBuilder();
        for (int n = random.nextInt(40); n > 0; n--) {
            text.append((char) random.nextInt(256));
        }
        return text.toString();
    }

    private static int number(Random random) {
        switch (random.nextInt(4)) {
            case 0: return random.nextInt();
            case 1: return random.nextBoolean() ? Integer.MIN_VALUE : Integer.MAX_VALUE;
            default: return random.nextInt(70) - 3;
        }
    }

    private static void oneCall(SoftController c, Random random, int a, int b, int d) {
        int which = random.nextInt(21);
        try {
            switch (which) {
                case 0: c.feed(a, b, d, a, b); break;
                case 1: c.end(a); break;
                case 2: c.load(a > 0); break;
                case 3: c.scan(a & 3); break;
                case 4: c.power(); break;
                case 5: c.input(a, b); break;
                case 6: c.look(a, b); break;
                case 7: c.force(d > 0, a, b, d); break;
                case 8: c.watchdog(a); break;
                case 9: c.clear(a); break;
                case 10: c.task(a, b); break;
                case 11: c.value(a, b); break;
                case 12: c.poke(a, b, (long) d << 20); break;
                case 13: c.variable(a, b); break;
                case 14: c.field(a, b, d); break;
                case 15: c.find(a); break;
                case 16: c.trace(a & 7, b & 3, d > 0); break;
                case 17: c.event(a, b); break;
                case 18: c.count(a); break;
                case 19: c.work(a, b & 7, d & 7, (long) a << 31, b); break;
                default: c.tell(a, b & 7, d & 7, (long) a << 31, b); break;
            }
        } catch (RuntimeException e) {
            if (!allowed(which, e.getClass().getSimpleName())) {
                Checks.fail("call " + which + " (" + a + ", " + b + ", " + d + ") threw " + e);
            }
        }
    }

    private static boolean allowed(int which, String thrown) {
        String[] due = {"", "", "", "IllegalArgumentException", "", "IndexOutOfBoundsException",
            "IllegalArgumentException IndexOutOfBoundsException", "IndexOutOfBoundsException", "IllegalArgumentException",
            "NoSuchElementException", "NoSuchElementException IllegalArgumentException", "NoSuchElementException",
            "NoSuchElementException UnsupportedOperationException", "NoSuchElementException IllegalArgumentException",
            "NoSuchElementException", "IllegalArgumentException", "NoSuchElementException IllegalStateException",
            "NoSuchElementException IllegalArgumentException", "IllegalArgumentException",
            "IllegalArgumentException ArithmeticException", "IllegalArgumentException"};
        for (String one : due[which].split(" ")) {
            if (one.equals(thrown)) {
                return true;
            }
        }
        return false;
    }
}
