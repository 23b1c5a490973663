import java.nio.charset.StandardCharsets;
import java.util.function.Supplier;

/** Counts what the tests of one class find, and gives setup texts to an object. */
final class Check {
    private String sentence = "";
    private int made = 0;
    private int wrong = 0;

    /** The checks from here on are for this sentence of the document. */
    void says(String words) {
        sentence = "[" + words + "] ";
    }

    void same(String what, Object due, Object got) {
        made++;
        if (!due.equals(got)) {
            wrong++;
            System.out.println(sentence + what + ": answered " + got + ", due is " + due);
        }
    }

    /** The call must throw just this class of exception. */
    void refuses(String what, Class<?> due, Supplier<?> call) {
        answers(what, due, call);
    }

    /** Due is what the call answers, or the class of the exception that it throws. */
    void answers(String what, Object due, Supplier<?> call) {
        Object got;
        try {
            got = call.get();
        } catch (RuntimeException e) {
            got = e.getClass();
        }
        same(what, due, got);
    }

    /** A new object reads the text without an error. */
    void accepts(String text, int rules) {
        ColorScheme x = new ColorScheme();
        same(text, rules, load(x, text));
        same("error offset of " + text, -1, x.errorOffset());
    }

    /** A new object finds an error where the sign ^ stands, and stays new. */
    void rejects(int code, String marked) {
        String text = marked.replace("^", "");
        ColorScheme x = new ColorScheme();
        same(marked, code, load(x, text));
        same("error offset of " + marked, marked.indexOf('^'), x.errorOffset());
        same("roles after " + marked, 0, x.roleCount());
        same("rules after " + marked, 0, x.ruleCount());
        same("changes after " + marked, -1, x.undo());
    }

    void end(String name) {
        System.out.println(name + ": " + made + " checks, " + wrong + " wrong");
        if (wrong != 0 || made == 0) {
            System.exit(1);
        }
    }

    static ColorScheme loaded(String text) {
        ColorScheme scheme = new ColorScheme();
        int answer = load(scheme, text);
        if (answer < 0) {
            throw new IllegalStateException("error " + answer + " at " + scheme.errorOffset() + " in: " + text);
        }
        return scheme;
    }

    static int load(ColorScheme scheme, String text) {
        fill(scheme, text);
        return scheme.load(text.length());
    }

    /** Appends the text, a byte a character; spaces fill up the last 20. */
    static void fill(ColorScheme scheme, String text) {
        byte[] bytes = text.getBytes(StandardCharsets.ISO_8859_1);
        for (int offset = 0; offset < bytes.length; offset += 20) {
            scheme.append(word(bytes, offset), word(bytes, offset + 4), word(bytes, offset + 8),
                word(bytes, offset + 12), word(bytes, offset + 16));
        }
    }

    private static int word(byte[] bytes, int offset) {
        int word = 0;
        for (int i = offset; i < offset + 4; i++) {
            word = word << 8 | (i < bytes.length ? bytes[i] & 255 : ' ');
        }
        return word;
    }
}
