import java.nio.charset.StandardCharsets;

/** What the tests have in common: texts are fed and loaded, answers compared, and wrong ones counted. */
final class Checks {
    private static int wrong;
    private static int done;

    /** A call that is to throw. */
    interface Call {
        void make();
    }

    static void same(String what, long got, long due) {
        done++;
        if (got != due) {
            wrong++;
            System.out.println(shortened(what) + " answered " + got + ", due is " + due);
        }
    }

    private static String shortened(String what) {
        int length = what.length();
        return length <= 500 ? what : what.substring(0, 240) + " .. " + what.substring(length - 240);
    }

    static void same(String what, boolean got, boolean due) {
        same(what, got ? 1 : 0, due ? 1 : 0);
    }

    static void refused(String what, Class<?> due, Call call) {
        done++;
        Class<?> got = null;
        try {
            call.make();
        } catch (RuntimeException e) {
            got = e.getClass();
        }
        if (got != due) {
            wrong++;
            System.out.println(what + " threw " + got + ", due is " + due);
        }
    }

    static void fail(String what) {
        done++;
        wrong++;
        System.out.println(what);
    }

    /** Puts a text on an empty TAPE. */
    static void feed(SoftController c, String text) {
        byte[] bytes = text.getBytes(StandardCharsets.ISO_8859_1);
        for (int i = 0; i < bytes.length; i += 20) {
            int[] five = new int[5];
            for (int k = 0; k < 20; k++) {
                int b = i + k < bytes.length ? bytes[i + k] & 255 : ' ';
                five[k / 4] = five[k / 4] << 8 | b;
            }
            c.feed(five[0], five[1], five[2], five[3], five[4]);
        }
        c.end(bytes.length);
    }

    static int load(SoftController c, String text, boolean warm) {
        feed(c, text);
        return c.load(warm);
    }

    /** A new object with a text that has no FAULT. */
    static SoftController with(String text) {
        SoftController c = new SoftController();
        same("load of " + text, load(c, text, false), 0);
        same("place of " + text, c.place(), SoftController.NONE);
        return c;
    }

    /** A text has a FAULT where it has an @ (which is taken out). */
    static void fault(int number, String marked) {
        int place = marked.indexOf('@');
        String text = marked.substring(0, place) + marked.substring(place + 1);
        SoftController c = new SoftController();
        same("load of " + text, load(c, text, false), number);
        same("place of " + text, c.place(), place);
    }

    static void sound(String text) {
        with(text);
    }

    /** A task's latest FAULT is where the text has an @ (which is taken out). */
    static SoftController stops(int number, String marked, int watchdog) {
        int place = marked.indexOf('@');
        String text = marked.substring(0, place) + marked.substring(place + 1);
        SoftController c = with(text);
        c.watchdog(watchdog);
        c.scan(1);
        same("STOPPED in " + text, c.task(0, 2), 1);
        same("FAULT of " + text, c.task(0, 5), number);
        same("its place in " + text, c.task(0, 6), place);
        return c;
    }

    /** What an E comes to in a task, as a long. */
    static void worked(String tellings, String e, long due) {
        SoftController c = with(tellings + " var long result_; task task_ every 1 { result_ = " + e + "; }");
        c.scan(1);
        feed(c, "result_");
        same(e, c.value(c.find(0), 0), due);
        same(e + " stopped", c.task(0, 2), 0);
    }

    /** What WORK the Stats of a task are. */
    static void costs(String tellings, String stats, int due) {
        SoftController c = with(tellings + " task task_ every 1 { " + stats + " }");
        c.scan(1);
        same("WORK of " + stats, c.task(0, 4), due);
    }

    /** A call on an object. */
    interface Use {
        void on(SoftController c);
    }

    /** A call that throws changes nothing that can be asked. */
    static void refusedOn(SoftController c, String what, Class<?> due, Use use) {
        String before = state(c);
        refused(what, due, () -> use.on(c));
        unchanged(what, c, before);
    }

    static void unchanged(String what, SoftController c, String before) {
        done++;
        String after = state(c);
        if (!after.equals(before)) {
            wrong++;
            System.out.println(what + " changed " + before + " to " + after);
        }
    }

    /** What can be asked of an object, in few calls: an object has 512 of them at most. */
    static String state(SoftController c) {
        StringBuilder all = new StringBuilder();
        for (int what = 0; what < 11; what++) {
            all.append(c.count(what)).append(' ');
        }
        all.append(c.place()).append(' ').append(c.sum());
        for (int task = 0; task < c.count(2); task++) {
            for (int what = 0; what < 9; what++) {
                all.append(' ').append(c.task(task, what));
            }
        }
        for (int what = 0; what < 8; what++) {
            all.append(' ').append(c.look(what, 0)).append(' ').append(c.look(what, 63));
        }
        for (int k = 0; k < c.count(8) && k < 4; k++) {
            all.append(' ').append(c.event(k, 0)).append(' ').append(c.event(k, 1)).append(' ').append(c.event(k, 3));
        }
        return all.toString();
    }

    static void close(String test) {
        System.out.println(test + ": " + done + " checks, " + wrong + " wrong");
        if (wrong > 0 || done == 0) {
            System.exit(1);
        }
    }
}
