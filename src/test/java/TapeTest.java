/** Promises 1 to 3 and 18: a new object, the TAPE, and what it finds. */
final class TapeTest {
    public static void main(String[] args) {
        newObject();
        feeding();
        ending();
        finding();
        Checks.close("TapeTest");
    }

    private static void newObject() {
        SoftController c = new SoftController();
        Checks.same("NONE", SoftController.NONE, -1);
        for (int what = 0; what < 10; what++) {
            Checks.same("count(" + what + ")", c.count(what), 0);
        }
        Checks.same("count(10)", c.count(10), 3000);
        Checks.refused("count(-1)", IllegalArgumentException.class, () -> c.count(-1));
        Checks.refused("count(11)", IllegalArgumentException.class, () -> c.count(11));
        Checks.same("place", c.place(), -1);
        Checks.same("sum", c.sum(), 0);
        Checks.same("scan", c.scan(50), 0);
        Checks.same("TICK", c.count(5), 50);
    }

    private static void feeding() {
        SoftController c = new SoftController();
        for (int i = 0; i < 300; i++) {
            Checks.same("feed " + i, c.feed(0x20202020, 0x20202020, 0x20202020, 0x20202020, 0x20202020), true);
        }
        Checks.same("bytes", c.count(9), 6000);
        Checks.same("feed beyond", c.feed(0, 0, 0, 0, 0), false);
        Checks.same("bytes then", c.count(9), 6000);
        c.end(5981);
        Checks.same("feed of one too many", c.feed(0, 0, 0, 0, 0), false);
        c.end(5980);
        Checks.same("feed of the last", c.feed(0x20202020, 0x20202020, 0x20202020, 0x20202020, 0x20202020), true);
        Checks.same("load", c.load(false), 0);
        Checks.same("bytes behind load", c.count(9), 0);
        // "var byte ab;" : the highest byte of each number comes first.
        c.feed(0x76617220, 0x62797465, 0x2061623b, 0x20202020, 0x20202020);
        Checks.same("load of a variable", c.load(false), 0);
        Checks.same("variables", c.count(0), 1);
        c.feed(-1, -2, -3, -4, -5);
        Checks.same("load of no token", c.load(false), 1);
        Checks.same("a FAULT empties the TAPE too", c.count(9), 0);
        Checks.same("what is loaded stays", c.count(0), 1);
    }

    private static void ending() {
        SoftController c = new SoftController();
        Checks.same("end(0)", c.end(0), true);
        Checks.same("end(1) of nothing", c.end(1), false);
        Checks.same("end(-1)", c.end(-1), false);
        c.feed(0, 0, 0, 0, 0);
        Checks.same("end(21)", c.end(21), false);
        Checks.same("end(min)", c.end(Integer.MIN_VALUE), false);
        Checks.same("end(max)", c.end(Integer.MAX_VALUE), false);
        Checks.same("bytes", c.count(9), 20);
        Checks.same("end(20)", c.end(20), true);
        Checks.same("end(7)", c.end(7), true);
        Checks.same("bytes then", c.count(9), 7);
        Checks.same("end(8)", c.end(8), false);
        // Bytes behind the end are none of the text's: neither the x of 5x nor the second / of a note.
        c.load(false);
        Checks.feed(c, "var int a = 5xxxxxxx");
        c.end(13);
        Checks.same("load of a text cut behind 5", c.load(false), 2);
        Checks.same("its place", c.place(), 13);
        Checks.feed(c, "//");
        c.end(1);
        Checks.same("load of /", c.load(false), 2);
        Checks.same("its place then", c.place(), 0);
    }

    private static int find(SoftController c, String name, int sort) {
        Checks.feed(c, name);
        int found = c.find(sort);
        Checks.same("the TAPE stays", c.count(9), name.length());
        c.end(0);
        return found;
    }

    private static void finding() {
        SoftController c = Checks.with("var int a; in byte b at 0; keep long twelve_chars; block k(int p) {} use k u, v;"
                + " func int f(int q) { return q; } func int g() {} task t every 1 {} task w every 2 {}");
        String[][] names = {{"a", "b", "twelve_chars"}, {"u", "v"}, {"t", "w"}, {"k"}, {"f", "g"}};
        for (int sort = 0; sort < 5; sort++) {
            for (int other = 0; other < 5; other++) {
                for (int i = 0; i < names[other].length; i++) {
                    Checks.same(names[other][i] + " as " + sort, find(c, names[other][i], sort),
                            sort == other ? i : -1);
                }
            }
        }
        for (String none : new String[] {"", "A", "a ", " a", "aa", "p", "q", "abs", "int", "twelve_char",
            "twelve_chars_", "\0a", "a\0", "welve_chars", "\u00e1"}) {
            for (int sort = 0; sort < 5; sort++) {
                Checks.same("'" + none + "' as " + sort, find(c, none, sort), -1);
            }
        }
        Checks.refused("find(-1)", IllegalArgumentException.class, () -> c.find(-1));
        Checks.refused("find(5)", IllegalArgumentException.class, () -> c.find(5));
    }
}
