import java.nio.charset.StandardCharsets;
import java.util.function.Supplier;

/** Counts what the tests of one class find, and gives setup texts to an object. */
final class Check {
    private int made = 0;
    private int wrong = 0;

    void same(String what, Object due, Object got) {
        made++;
        if (!due.equals(got)) {
            wrong++;
            System.out.println(what + ": answered " + got + ", due is " + due);
        }
    }

    /** The call must throw just this class of exception. */
    void refuses(String what, Class<?> due, Supplier<?> call) {
        Object got;
        try {
            got = call.get();
        } catch (RuntimeException e) {
            got = e.getClass();
        }
        same(what, due, got);
    }

    void end(String name) {
        System.out.println(name + ": " + made + " checks, " + wrong + " wrong");
        if (wrong != 0 || made == 0) {
            System.exit(1);
        }
    }

    static ColorScheme loaded(String text) {
        ColorScheme scheme = new ColorScheme();
        int answer = load(scheme, text);
        if (answer < 0) {
            throw new IllegalStateException("error " + answer + " at " + scheme.errorOffset() + " in: " + text);
        }
        return scheme;
    }

    static int load(ColorScheme scheme, String text) {
        byte[] bytes = text.getBytes(StandardCharsets.ISO_8859_1);
        fill(scheme, bytes);
        return scheme.load(bytes.length);
    }

    /** Appends the bytes; spaces fill up the last 20. */
    static void fill(ColorScheme scheme, byte[] bytes) {
        for (int offset = 0; offset < bytes.length; offset += 20) {
            scheme.append(word(bytes, offset), word(bytes, offset + 4), word(bytes, offset + 8),
                word(bytes, offset + 12), word(bytes, offset + 16));
        }
    }

    private static int word(byte[] bytes, int offset) {
        int word = 0;
        for (int i = offset; i < offset + 4; i++) {
            word = word << 8 | (i < bytes.length ? bytes[i] & 255 : ' ');
        }
        return word;
    }
}
