/** Promises 8 to 10: the FIELD, the IMAGES, in and out variables, and forced bits. */
final class ImagesTest {
    private static final int FIELD_IN = 0;
    private static final int FIELD_OUT = 1;
    private static final int IMAGE_IN = 2;
    private static final int IMAGE_OUT = 3;

    public static void main(String[] args) {
        inputs();
        outputs();
        forcing();
        wrongInputs();
        Checks.close("ImagesTest");
    }

    private static void inputs() {
        SoftController c = Checks.with("in byte b at 0; in short s at 0; in word w at 0; in int i at 60; in long l at 56;"
                + " var long seen; task t every 1 { seen = w + 65536 * b.7; }");
        c.input(0, 0xfff0);
        c.input(1, -1);
        c.input(56, 0x80);
        c.input(63, 5);
        Checks.same("the FIELD has it", c.look(FIELD_IN, 0), 0xf0);
        Checks.same("the IMAGE not yet", c.look(IMAGE_IN, 0), 0);
        Checks.same("nor the variable", c.value(0, 0), 0);
        c.scan(1);
        Checks.same("the IMAGE then", c.look(IMAGE_IN, 1), 255);
        Checks.same("byte", c.value(0, 0), -16);
        Checks.same("short", c.value(1, 0), (short) 0xf0ff);
        Checks.same("word", c.value(2, 0), 0xf0ff);
        Checks.same("int", c.value(3, 0), 5);
        Checks.same("long", c.value(4, 0), 0x8000000000000005L);
        Checks.same("seen by the task", c.value(5, 0), 0x1f0ff);
        c.input(0, 1);
        c.scan(1);
        Checks.same("byte then", c.value(0, 0), 1);
    }

    private static void outputs() {
        SoftController c = Checks.with("out int i at 4; out byte high at 4; out byte low at 7; out long l at 56; out word w at 2;"
                + " var int n, seen; task t every 1 { n++; i = 0x01020304; high = -1; low.7 = 1; l = -2; w--; seen = i; i += 1; }");
        c.scan(1);
        int[] due = {0, 0, 255, 255, 255, 2, 3, 0x85};
        for (int at = 0; at < 8; at++) {
            Checks.same("IMAGE " + at, c.look(IMAGE_OUT, at), due[at]);
            Checks.same("FIELD " + at, c.look(FIELD_OUT, at), due[at]);
        }
        Checks.same("byte 56", c.look(FIELD_OUT, 56), 255);
        Checks.same("byte 63", c.look(FIELD_OUT, 63), 254);
        Checks.same("variables that lie over one another", c.value(6, 0), (int) 0xff020384L);
        Checks.same("value of an out variable", c.value(0, 0), (int) 0xff020385L);
        Checks.same("poke of an out variable", c.poke(1, 0, 0x17f), 127);
        Checks.same("the IMAGE has it", c.look(IMAGE_OUT, 4), 127);
        Checks.same("the FIELD not yet", c.look(FIELD_OUT, 4), 255);
        Checks.same("what lies over it", c.value(0, 0), 0x7f020385);
        Checks.refused("poke of an in variable", UnsupportedOperationException.class,
                () -> Checks.with("in int i at 0;").poke(0, 0, 1));
    }

    private static void forcing() {
        SoftController c = Checks.with("in byte b at 0; out byte o at 0; var int seen; task t every 1 { o = b; seen = o; }");
        c.input(0, 0x0f);
        c.force(false, 0, 0x1f3, 0x52);
        c.force(true, 0, 0x0c, 0xff8);
        int[] due = {0xf3, 0x0c, 0x52, 0x08};
        for (int what = 4; what < 8; what++) {
            Checks.same("look(" + what + ", 0)", c.look(what, 0), due[what - 4]);
        }
        Checks.same("not yet", c.look(IMAGE_IN, 0), 0);
        c.scan(1);
        Checks.same("forced inputs", c.look(IMAGE_IN, 0), 0x5e);
        Checks.same("the FIELD's inputs stay", c.look(FIELD_IN, 0), 0x0f);
        Checks.same("the task sees what it wrote", c.value(2, 0), 0x5e);
        Checks.same("forced outputs", c.look(IMAGE_OUT, 0), 0x5a);
        Checks.same("the FIELD has them", c.look(FIELD_OUT, 0), 0x5a);
        c.force(false, 0, 1, 0);
        c.force(true, 0, 0, 255);
        Checks.same("others are not forced any more", c.look(4, 0), 1);
        Checks.same("as 0", c.look(6, 0), 0);
        Checks.same("none", c.look(7, 0), 0);
        c.scan(1);
        Checks.same("inputs then", c.look(IMAGE_IN, 0), 0x0e);
        Checks.same("outputs then", c.look(FIELD_OUT, 0), 0x0e);
        // Outputs are forced without any task too.
        SoftController d = new SoftController();
        d.force(true, 63, 0x81, 0x80);
        d.scan(1);
        Checks.same("without a task", d.look(FIELD_OUT, 63), 0x80);
    }

    private static void wrongInputs() {
        SoftController c = new SoftController();
        for (int at : new int[] {-1, 64, Integer.MIN_VALUE, Integer.MAX_VALUE}) {
            Checks.refused("input(" + at + ")", IndexOutOfBoundsException.class, () -> c.input(at, 1));
            Checks.refused("force in(" + at + ")", IndexOutOfBoundsException.class, () -> c.force(false, at, 1, 1));
            Checks.refused("force out(" + at + ")", IndexOutOfBoundsException.class, () -> c.force(true, at, 1, 1));
            for (int what = 0; what < 8; what++) {
                int row = what;
                Checks.refused("look(" + at + ")", IndexOutOfBoundsException.class, () -> c.look(row, at));
            }
            Checks.refused("look(8, " + at + ")", IllegalArgumentException.class, () -> c.look(8, at));
            Checks.refused("look(-1, " + at + ")", IllegalArgumentException.class, () -> c.look(-1, at));
        }
        for (int what = 0; what < 8; what++) {
            Checks.same("nothing is changed", c.look(what, 63) + c.look(what, 0), 0);
        }
    }
}
