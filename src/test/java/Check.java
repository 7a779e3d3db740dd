import java.nio.charset.StandardCharsets;
import java.util.NoSuchElementException;

/** Counts what was checked and prints what is not as it is due. */
final class Check {
    private static int checks = 0;
    private static int wrong = 0;
    private static String part = "";

    private Check() {
    }

    static void part(String name) {
        part = name;
    }

    static int count() {
        return checks;
    }

    static void same(String what, Object got, Object due) {
        checks++;
        if (!due.equals(got)) {
            wrong++;
            System.out.println(part + ": " + what + " answered " + got + ", due is " + due);
        }
    }

    static void holds(String what, boolean good) {
        same(what, good, true);
    }

    /** The class must be this very one: one below it may be an exception of the Java machine. */
    static void thrown(String what, Class<?> due, Runnable call) {
        Object got = "nothing";
        try {
            call.run();
        } catch (RuntimeException e) {
            got = e.getClass();
        }
        same(what + " throws", got, due);
    }

    /** Whatever it answers, it throws nothing. */
    static void answers(String what, Runnable call) {
        Object got = "nothing";
        try {
            call.run();
        } catch (RuntimeException e) {
            got = e.getClass();
        }
        same(what + " throws", got, "nothing");
    }

    static void index(String what, Runnable call) {
        thrown(what, IndexOutOfBoundsException.class, call);
    }

    static void argument(String what, Runnable call) {
        thrown(what, IllegalArgumentException.class, call);
    }

    static void state(String what, Runnable call) {
        thrown(what, IllegalStateException.class, call);
    }

    static void element(String what, Runnable call) {
        thrown(what, NoSuchElementException.class, call);
    }

    static void finish(String suite) {
        System.out.println(suite + ": " + checks + " checks, " + wrong + " wrong");
        if (wrong > 0 || checks == 0) {
            System.exit(1);
        }
    }

    /** Puts a text into the empty input buffer of an object. */
    static void feed(WineCooperative x, String text) {
        byte[] bytes = text.getBytes(StandardCharsets.ISO_8859_1);
        for (int at = 0; at < bytes.length; at += 20) {
            x.append(four(bytes, at), four(bytes, at + 4), four(bytes, at + 8), four(bytes, at + 12),
                    four(bytes, at + 16));
        }
        x.truncate(bytes.length);
    }

    private static int four(byte[] bytes, int at) {
        int sum = 0;
        for (int i = at; i < at + 4; i++) {
            sum = sum << 8 | (i < bytes.length ? bytes[i] & 255 : 'x');
        }
        return sum;
    }

    static int load(WineCooperative x, String text) {
        feed(x, text);
        return x.load();
    }

    static WineCooperative loaded(String text) {
        WineCooperative x = new WineCooperative();
        if (load(x, text) == WineCooperative.PARSE_ERROR) {
            same("a good text, at offset " + x.errorOffset() + " of " + text, x.errorCode(), 0);
        }
        return x;
    }

    static String output(WineCooperative x) {
        int length = x.printTanks();
        StringBuilder text = new StringBuilder();
        for (int i = 0; i < length; i++) {
            text.append((char) x.outputByte(i));
        }
        element("outputByte behind the end", () -> x.outputByte(length));
        return text.toString();
    }
}
