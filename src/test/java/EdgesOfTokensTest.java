/** THE TAPE and TOKENS (promises 2 to 5 and 18): every byte, every length, every sign. */
final class EdgesOfTokensTest {
    private static final String LETTERS = "abcdefghijklmnopqrstuvwxyzABCDEFGHIJKLMNOPQRSTUVWXYZ_";
    private static final String DIGITS = "0123456789";
    private static final String BLANKS = "\t\n\r ";
    private static final String[] KEYWORDS = ("var keep in out at block use func task every after byte short word int long if elif else while"
            + " for switch case default break continue return fault now").split(" ");

    public static void main(String[] args) {
        fullTape();
        bytesBetween();
        bytesInNotes();
        notes();
        lengthsOfNames();
        wordsThatAreNames();
        keywords();
        digits();
        hexDigits();
        behindNumbers();
        characters();
        signsOfE();
        signsOfStats();
        signsUnknown();
        Checks.close("EdgesOfTokensTest");
    }

    private static String times(String one, int n) {
        return one.repeat(n);
    }

    /** THE TAPE has at most 6000 bytes, and load() reads them all. */
    private static void fullTape() {
        String head = "var int a;" + times(" ", 5980);
        SoftController c = Checks.with(head + "var int b;");
        Checks.same("both variables of 6000 bytes", c.count(0), 2);
        Checks.fault(2, head + "var int bc@");
        Checks.fault(1, head + "var int b@#");
        Checks.fault(1, head + "var int b@'");
        Checks.sound("//" + times("x", 5998));
        Checks.sound(times(" ", 6000));
        Checks.fault(2, times(" ", 5999) + "@;");
        SoftController full = new SoftController();
        Checks.feed(full, times(" ", 6000));
        String before = Checks.state(full);
        Checks.same("feed of a full TAPE", full.feed(1, 2, 3, 4, 5), false);
        Checks.unchanged("feed of a full TAPE", full, before);
    }

    /** Between tokens only the blanks 9, 10, 13, 32 may stand; what is no sign, letter or digit is no token. */
    private static void bytesBetween() {
        for (int b = 0; b < 256; b++) {
            char c = (char) b;
            if (BLANKS.indexOf(c) >= 0) {
                Checks.sound("var" + c + "int" + c + "a" + c + ";" + c);
            } else if (LETTERS.indexOf(c) >= 0 || DIGITS.indexOf(c) >= 0) {
                Checks.fault(2, "@var" + c + "int a;");
            } else if ("(){}[];,.?:=+-*/%&|^<>~!".indexOf(c) >= 0) {
                Checks.fault(2, "var@" + c + "int a;");
            } else {
                // The mark itself is a byte here, so the place is told apart.
                SoftController d = new SoftController();
                Checks.same("byte " + b, Checks.load(d, "var" + c + "int a;", false), 1);
                Checks.same("its place", d.place(), 3);
            }
        }
    }

    /** A note goes up to a 10 or the end, over every other byte. */
    private static void bytesInNotes() {
        for (int b = 0; b < 256; b++) {
            SoftController c = new SoftController();
            int fault = Checks.load(c, "//" + (char) b + "#", false);
            Checks.same("byte " + b + " in a note", fault, b == 10 ? 1 : 0);
            Checks.same("its place", c.place(), b == 10 ? 3 : -1);
        }
    }

    private static void notes() {
        Checks.sound("//");
        Checks.sound("///");
        Checks.sound("//\n//");
        Checks.sound("var//\nint//\na//\n;//\n");
        Checks.sound("var int a;// b\n var int b;");
        Checks.fault(2, "@va//\nr int a;");
        Checks.fault(2, "@/ / a");
        Checks.fault(2, "@/\n/ a");
        Checks.fault(2, "var int a @/");
        Checks.fault(2, "var int a = 5 //;@");
        Checks.sound("var int a = 5 //;\n;");
        // /= is longer than / , but // comes ahead of both.
        Checks.sound("var int a; task t every 1 { a /= 1; a = a //= 1;\n/ 1; }");
    }

    /** 12 letters are the most; a longer one is no token, at its first byte. */
    private static void lengthsOfNames() {
        for (int n = 1; n <= 40; n++) {
            String name = times("n", n);
            if (n <= 12) {
                Checks.sound("var int " + name + ";");
            } else {
                Checks.fault(1, "var int @" + name + ";");
                Checks.fault(1, "var int a; @" + name);
            }
        }
        Checks.sound("var int _, __, a1, _1, A, a, Aa, aA, aa_, z9Z9z9Z9z9Z9;");
        Checks.fault(1, "var int @_123456789012;");
        Checks.fault(1, "var int @1a;");
        // All twelve bytes count, and whether a letter is great or small.
        Checks.sound("var int abcdefghijk1, abcdefghijk2, abcdefgh, abcdefghi, bcdefghijk1, Abcdefghijk1;");
        Checks.fault(3, "var int abcdefghijk1, @abcdefghijk1;");
        for (int at = 0; at < 12; at++) {
            String other = "abcdefghijkl".substring(0, at) + "_" + "abcdefghijkl".substring(at + 1);
            Checks.sound("var int abcdefghijkl, " + other + ";");
        }
    }

    private static void wordsThatAreNames() {
        for (String word : KEYWORDS) {
            String great = word.substring(0, 1).toUpperCase() + word.substring(1);
            Checks.sound("var int " + great + ", _" + word + ", " + word + "_, " + word + "0;");
            Checks.sound("var int " + word.substring(0, word.length() - 1) + "_;");
        }
    }

    /** KEYWORDS are no NAMES, wherever a NAME is told or used. */
    private static void keywords() {
        for (String word : KEYWORDS) {
            Checks.fault(2, "var int @" + word + ";");
            Checks.fault(2, "keep int a, @" + word + ";");
            Checks.fault(2, "in byte @" + word + " at 0;");
            Checks.fault(2, "block @" + word + "() {}");
            Checks.fault(2, "block k(int @" + word + ") {}");
            Checks.fault(2, "func int @" + word + "() {}");
            Checks.fault(2, "task @" + word + " every 1 {}");
            Checks.fault(2, "block k() {} use @" + word + " a;");
            Checks.fault(2, "block k() {} use k @" + word + ";");
            Checks.fault(2, "var int a; task t every 1 { for @" + word + " = 1 .. 2 {} }");
            if (!word.equals("now")) {
                Checks.fault(2, "var int a; task t every 1 { a = @" + word + "; }");
            }
            SoftController c = new SoftController();
            Checks.feed(c, word);
            Checks.same("find " + word, c.find(0), -1);
        }
    }

    private static void number(String text, long due) {
        SoftController c = Checks.with("var long a = " + text + ";");
        Checks.same(text, c.value(0, 0), due);
        Checks.worked("", text, due);
    }

    /** 1 to 10 digits, of a long to 19; 0s ahead count; more: no token; above the greatest number: FAULT 5. */
    private static void digits() {
        for (int n = 1; n <= 22; n++) {
            String digits = times("0", n - 1) + "7";
            if (n <= 10) {
                number(digits, 7);
            } else {
                Checks.fault(1, "var long a = @" + digits + ";");
            }
            if (n <= 19) {
                number(digits + "L", 7);
            } else {
                Checks.fault(1, "var long a = @" + digits + "L;");
            }
        }
        number("2147483647", 2147483647L);
        number("2147483647L", 2147483647L);
        number("2147483648L", 2147483648L);
        number("9223372036854775807L", Long.MAX_VALUE);
        number("-9223372036854775807L", -Long.MAX_VALUE);
        for (String above : new String[] {"2147483648", "2147483650", "4294967295", "4294967296", "9999999999",
            "9223372036854775808L", "9223372036854775810L", "9999999999999999999L"}) {
            Checks.fault(5, "var long a = @" + above + ";");
            Checks.fault(5, "var long a = -@" + above + ";");
            Checks.fault(5, "var long a; task t every 1 { a = @" + above + "; }");
            Checks.fault(5, "var long a; task t every 1 { a = -@" + above + "; }");
            Checks.fault(5, "var long a; task t every 1 { switch a { case @" + above + " {} } }");
        }
        for (String text : new String[] {"10000000000", "00000000000", "99999999999", "10000000000000000000L", "99999999999999999999L"}) {
            Checks.fault(1, "var long a = @" + text + ";");
        }
    }

    /** 0x and 1 to 8 digits, of a long to 16, tell bits. */
    private static void hexDigits() {
        for (int n = 1; n <= 20; n++) {
            String digits = "0x" + times("f", n);
            if (n <= 8) {
                number(digits, n == 8 ? -1 : (1L << 4 * n) - 1);
            } else {
                Checks.fault(1, "var long a = @" + digits + ";");
            }
            if (n <= 16) {
                number(digits + "L", n == 16 ? -1 : (1L << 4 * n) - 1);
            } else {
                Checks.fault(1, "var long a = @" + digits + "L;");
            }
        }
        number("0x80000000", Integer.MIN_VALUE);
        number("0x80000000L", 1L << 31);
        number("0x7fffffff", Integer.MAX_VALUE);
        number("-0x80000000", Integer.MIN_VALUE);
        number("0x8000000000000000L", Long.MIN_VALUE);
        number("-0x8000000000000000L", Long.MIN_VALUE);
        number("0x00000001", 1);
        number("0x0123456789abcdefL", 0x0123456789abcdefL);
        number("0xfedcba9876543210L", 0xfedcba9876543210L);
        number("0xABCDEF", 0xabcdef);
        Checks.fault(1, "var long a = @0x000000001;");
        Checks.fault(1, "var long a = @0x00000000000000001L;");
        Checks.fault(1, "var long a = @0x;");
        Checks.fault(1, "var long a = @0xL;");
        Checks.fault(1, "var long a = @0X1;");
        Checks.fault(1, "var long a = @0x1g;");
        Checks.fault(1, "var long a = @0xx1;");
    }

    /** A letter, _ or digit directly behind a NUMBER: no token; any other byte may stand there. */
    private static void behindNumbers() {
        for (String number : new String[] {"5", "5L", "0x5", "0x5L"}) {
            for (char c : (LETTERS + DIGITS).toCharArray()) {
                boolean goesOn = !number.endsWith("L") && (c == 'L' || DIGITS.indexOf(c) >= 0
                        || number.startsWith("0x") && "abcdefABCDEF".indexOf(c) >= 0);
                if (!goesOn) {
                    Checks.fault(1, "var long a = @" + number + c + ";");
                }
            }
            Checks.sound("var long a=" + number + ",b[" + number + "]=" + number + "//\n;");
            Checks.sound("var long a;task t every 5{for a=" + number + ".." + number + "{a=" + number + "?" + number + ":" + number
                    + "+" + number + ";}}");
            Checks.fault(2, "var long a = " + number + "@'a';");
        }
        Checks.fault(1, "var long a = @5LL;");
        Checks.fault(1, "var long a = @5l;");
    }

    /** ' a byte 32 .. 126 ' , an int. */
    private static void characters() {
        for (int b = 0; b < 256; b++) {
            SoftController c = new SoftController();
            int fault = Checks.load(c, "var int a = '" + (char) b + "';", false);
            boolean stands = b >= 32 && b <= 126;
            Checks.same("' " + b + " '", fault, stands ? 0 : 1);
            Checks.same("its place", c.place(), stands ? -1 : 12);
            if (stands) {
                Checks.same("its number", c.value(0, 0), b);
            }
        }
        Checks.fault(1, "var int a = @'");
        Checks.fault(1, "var int a = @'a");
        Checks.fault(1, "var int a = @'';");
        Checks.fault(1, "var int a = @'ab';");
        Checks.fault(1, "var int a = @'a;");
        Checks.fault(1, "var int a = '''@';");
        Checks.fault(2, "var int a = 'a'@b;");
        Checks.fault(2, "var int a = 'a'@5;");
        Checks.fault(5, "var byte a = -'a', b = @128;");
    }

    /** A sign is as long as can be: the second token of each run of signs can't stand in an E, or all of it can. */
    private static void signsOfE() {
        for (String stands : new String[] {"+", "-", "*", "/", "%", "&", "|", "^", "<<", ">>", ">>>", "<", "<=", ">", ">=", "==", "!=",
            "&&", "||", "+-", "- -", "*-", "/~", "%!", "<-", "<<-", ">>>-", ">=-", "==!", "!=!", "&~", "&&!", "||-", "^-", "|~", "<!", "-~", "-!"}) {
            Checks.sound("var int i; task t every 1 { i = 1" + stands + "1; }");
        }
        for (String fails : new String[] {">>>@>", "<<@<", "==@=", "!=@=", "<=@=", ">=@=", ">=@>", "||@|", "&&@&", "||@=", "&&@=", "^@^",
            "*@*", "/@*", "%@%", "<@>", ">@<", "&@|", "|@&", "^@|", ">>@<", "@>>>=", "@>>=", "@<<=", "@+=", "@-=", "@*=", "@/=", "@%=",
            "@&=", "@|=", "@^=", "@++", "@--", "@+++", "@---", "@=", "@=>", "@=<", "@..", "@...", "@!", "@~", "@:", "@,", "<=@>",
            ">>>@>=", "&@^", "@>>>=="}) {
            Checks.fault(2, "var int i; task t every 1 { i = 1" + fails + "1; }");
        }
        Checks.fault(2, "var int i; task t every 1 { i = 1?1@; }");
        Checks.fault(2, "var int i; task t every 1 { for i = 1..@.2 {} }");
        Checks.fault(2, "var int i; task t every 1 { for i = 1@.2 {} }");
        Checks.fault(2, "var int i; task t every 1 { i = 1 > @> 1; }");
        Checks.fault(2, "var int i; task t every 1 { i = 1 & @& 1; }");
        Checks.fault(2, "var int i; task t every 1 { i = 1 @= = 1; }");
    }

    private static void signsOfStats() {
        for (String stands : new String[] {"=1", "+=1", "-=1", "*=1", "/=1", "%=1", "&=1", "|=1", "^=1", "<<=1", ">>=1", ">>>=1", "++", "--",
            "=-1", "=~1", "=!1", "+=-1", "-=-1", ".0=1"}) {
            Checks.sound("var int i; task t every 1 { i" + stands + "; }");
        }
        for (String fails : new String[] {"@==1", "@<=1", "@>=1", "@!=1", "@&&=1", "@||=1", "@+1", "@>>>1", "+=@=1", "<<=@=1", "++@+", "--@1",
            "@+ +", "@+ =1", "@> >=1", "@..0=1", "@~=1", "=@+1", ".@i=1", ".@-1=1"}) {
            Checks.fault(2, "var int i; task t every 1 { i" + fails + "; }");
        }
    }

    /** Bytes that begin no token at all. */
    private static void signsUnknown() {
        for (String none : new String[] {"\"", "#", "$", "\\", "`", "\0", "\u007f", "\u0080", "\u00ff", "\u000b", "\f"}) {
            Checks.fault(1, "@" + none);
            Checks.fault(1, "var int a; task t every 1 { a = 1 @" + none + "; }");
        }
        SoftController c = new SoftController();
        Checks.same("load of @", Checks.load(c, "@", false), 1);
        Checks.same("its place", c.place(), 0);
    }
}
