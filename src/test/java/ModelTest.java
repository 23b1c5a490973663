import java.util.function.Function;
import java.util.function.Supplier;

/** All promises at once: long runs of calls, the same each time, on the class and on the model. */
public final class ModelTest {
    private static final int RUNS = 8000;
    /** The document promises nothing about an object after so many calls. */
    private static final int CALLS = 512;
    private static final String[] PIECES = {
        "scheme", ";", "role", "dark", "fixed", "text", "distinct", "floor", "size", "(", ")", "+", "-", "*", "/",
        "0", "1", "9", "255", "256", "9999", "10000", "00000000000000000000007", "99999999999999999999", " ", "#", "A",
        "roles", "\u00ff", "\n", "_"
    };

    private static long seed;
    private static int wrong = 0;
    private static int compared = 0;
    private static int run;
    private static int calls;
    private static ColorScheme x;
    private static Model model;

    public static void main(String[] args) {
        for (run = 1; run <= RUNS && wrong == 0; run++) {
            seed = 977L * run;
            x = new ColorScheme();
            model = new Model();
            calls = 0;
            while (calls < CALLS && wrong == 0) {
                callOne();
            }
        }
        System.out.println("ModelTest: " + compared + " answers compared, " + wrong + " wrong");
        if (wrong != 0) {
            System.exit(1);
        }
    }

    /** A number from 0 below the bound. */
    private static int pick(int bound) {
        seed = seed * 6364136223846793005L + 1442695040888963407L;
        return (int) ((seed >>> 33) % bound);
    }

    private static boolean chance(int percent) {
        return pick(100) < percent;
    }

    private static void compare(String call, Supplier<Object> due, Supplier<Object> got) {
        if (calls == CALLS) {
            return;
        }
        calls++;
        Object expected = answer(due);
        Object answered = answer(got);
        compared++;
        if (!expected.equals(answered)) {
            wrong++;
            System.out.println("run " + run + ": " + call + " answered " + answered + ", the model's is " + expected);
        }
    }

    /** Not all questions each time, so that an object's calls are enough for many changes. */
    private static void some(String call, Supplier<Object> due, Supplier<Object> got) {
        if (chance(35)) {
            compare(call, due, got);
        }
    }

    private static Object answer(Supplier<Object> call) {
        try {
            return call.get();
        } catch (RuntimeException e) {
            return e.getClass().getName();
        }
    }

    private static int oneRole() {
        return chance(4) ? pick(14) - 2 : pick(Math.max(1, model.roleCount()));
    }

    private static int oneRule() {
        return chance(4) ? pick(16) - 2 : pick(Math.max(1, model.ruleCount()));
    }

    private static int oneScheme() {
        return chance(4) ? pick(5) - 2 : pick(2);
    }

    private static int oneSight() {
        return chance(4) ? pick(9) - 2 : pick(5);
    }

    private static int oneColour() {
        return chance(5) ? (chance(50) ? -1 - pick(9) : 16777216 + pick(9)) : pick(16777216);
    }

    private static void callOne() {
        switch (pick(14)) {
            case 0:
                setUp();
                break;
            case 1:
            case 2:
            case 3:
                change();
                break;
            default:
                ask();
        }
        if (chance(3)) {
            compareAll();
        }
    }

    private static void setUp() {
        String text = chance(70) ? goodText() : chance(80) ? spoilt(goodText()) : anyText();
        int fill = chance(10) ? 36 : (text.length() + 19) / 20;
        while (text.length() < 20 * fill) {
            text += chance(95) ? " " : ";";
        }
        for (int i = 0; i < fill; i++) {
            int[] w = new int[5];
            for (int j = 0; j < 20; j++) {
                w[j / 4] = w[j / 4] << 8 | text.charAt(20 * i + j) & 255;
            }
            compare("append", () -> model.append(w), () -> x.append(w[0], w[1], w[2], w[3], w[4]));
        }
        int length = chance(5) ? text.length() + 1 : chance(5) ? -1 : chance(20) ? pick(text.length() + 1) : text.length();
        String shown = "load(" + length + ") of " + text;
        compare(shown, () -> model.load(length), () -> x.load(length));
        compare("errorOffset after " + shown, model::errorOffset, x::errorOffset);
    }

    private static String goodText() {
        StringBuilder text = new StringBuilder("scheme;");
        int roles = chance(5) ? pick(12) : 2 + pick(5);
        for (int i = 0; i < roles; i++) {
            text.append("role ").append(pick(256)).append(' ').append(pick(256)).append(' ').append(pick(256));
            text.append(chance(40) ? " dark " + pick(256) + " " + pick(256) + " " + pick(256) : "");
            text.append(chance(20) ? "fixed" : "").append(';');
        }
        boolean floor = chance(60);
        int rules = roles < 2 ? 0 : chance(5) ? pick(14) : pick(8);
        for (int i = 0; i < rules; i++) {
            if (floor && chance(30)) {
                floor = false;
                text.append("floor ").append(sum(0)).append(";");
            }
            int first = pick(roles);
            int second = (first + 1 + pick(roles - 1)) % roles;
            text.append(chance(50) ? "text " + first + " " + second + " " + (1 + pick(9))
                : "distinct " + first + " " + second + " " + pick(5) + " " + (1 + pick(chance(70) ? 500 : 2295)));
            text.append(';');
        }
        return text.append(floor ? "floor " + sum(0) + ";" : "").toString();
    }

    private static String sum(int depth) {
        StringBuilder text = new StringBuilder(term(depth));
        for (int i = pick(3); i > 0; i--) {
            text.append(chance(60) ? "+" : "-").append(term(depth));
        }
        return text.toString();
    }

    private static String term(int depth) {
        StringBuilder text = new StringBuilder(factor(depth));
        for (int i = pick(3); i > 0; i--) {
            text.append(chance(50) ? "*" : "/").append(factor(depth));
        }
        return text.toString();
    }

    private static String factor(int depth) {
        int kind = pick(10);
        if (kind < 2 && depth < 4 || kind == 0 && chance(10)) {
            return "(" + (depth > 5 ? "1" : sum(depth + 1)) + ")";
        }
        return kind < 5 ? "" + pick(chance(50) ? 600 : 10000) : kind < 8 ? "size" : "scheme";
    }

    private static String spoilt(String text) {
        StringBuilder spoilt = new StringBuilder(text);
        for (int i = 1 + pick(2); i > 0; i--) {
            int at = pick(spoilt.length());
            if (chance(50)) {
                spoilt.deleteCharAt(at);
            } else {
                spoilt.insert(at, PIECES[pick(PIECES.length)]);
            }
            if (spoilt.length() == 0) {
                return "";
            }
        }
        return spoilt.toString();
    }

    private static String anyText() {
        StringBuilder text = new StringBuilder(chance(50) ? "scheme;" : "");
        for (int i = pick(12); i > 0; i--) {
            text.append(PIECES[pick(PIECES.length)]).append(chance(50) ? " " : "");
        }
        return text.toString();
    }

    private static void change() {
        int role = oneRole();
        int scheme = oneScheme();
        int amount = chance(5) ? 700 * pick(2) - 350 : pick(515) - 257;
        int colour = oneColour();
        boolean fixed = chance(40);
        int most = chance(8) ? 7 * pick(2) : 1 + pick(6);
        switch (pick(7)) {
            case 0:
                compare("setColour(" + role + ", " + scheme + ", " + colour + ")",
                    () -> model.setColour(role, scheme, colour), () -> x.setColour(role, scheme, colour));
                break;
            case 1:
                compare("setFixed(" + role + ", " + fixed + ")",
                    () -> model.setFixed(role, fixed), () -> x.setFixed(role, fixed));
                break;
            case 2:
                compare("shift(" + role + ", " + scheme + ", " + amount + ")",
                    () -> model.shift(role, scheme, amount), () -> x.shift(role, scheme, amount));
                break;
            case 3:
                if (chance(50)) {
                    compare("repair(" + most + ")", () -> model.repair(most), () -> x.repair(most));
                }
                break;
            case 4:
                compare("swapSchemes()", model::swapSchemes, x::swapSchemes);
                break;
            default:
                for (int i = chance(10) ? 10 : 1; i > 0; i--) {
                    compare("undo()", model::undo, x::undo);
                }
        }
    }

    private static void ask() {
        int a = oneRole();
        int b = oneRole();
        int rule = oneRule();
        int scheme = oneScheme();
        int sight = oneSight();
        int colour = oneColour();
        int index = pick(8) - 1;
        String ruleAndScheme = "(" + rule + ", " + scheme + ")";
        some("contrast", () -> model.contrast(a, b, scheme), () -> x.contrast(a, b, scheme));
        some("seen", () -> model.seen(a, scheme, sight), () -> x.seen(a, scheme, sight));
        some("difference", () -> model.difference(a, b, scheme, sight), () -> x.difference(a, b, scheme, sight));
        some("nearest", () -> model.nearest(colour, scheme), () -> x.nearest(colour, scheme));
        some("need" + ruleAndScheme, () -> model.need(rule, scheme), () -> x.need(rule, scheme));
        some("value" + ruleAndScheme, () -> model.value(rule, scheme), () -> x.value(rule, scheme));
        some("violation(" + index + ")", () -> model.violation(index), () -> x.violation(index));
        some("smallestMargin", () -> model.smallestMargin(scheme), () -> x.smallestMargin(scheme));
        if (chance(25)) {
            compare("bestShift" + ruleAndScheme, () -> model.bestShift(rule, scheme), () -> x.bestShift(rule, scheme));
            compare("shiftRole" + ruleAndScheme, () -> model.shiftRole(rule, scheme), () -> x.shiftRole(rule, scheme));
        }
    }

    private static void compareAll() {
        compare("checksum()", model::checksum, x::checksum);
        compare("roleCount()", model::roleCount, x::roleCount);
        compare("ruleCount()", model::ruleCount, x::ruleCount);
        compare("violations()", model::violations, x::violations);
        compare("errorOffset()", model::errorOffset, x::errorOffset);
        for (int role = -1; role <= model.roleCount(); role++) {
            int r = role;
            compare("isFixed(" + r + ")", () -> model.isFixed(r), () -> x.isFixed(r));
            for (int scheme = -1; scheme <= 2; scheme++) {
                int s = scheme;
                compare("colour(" + r + ", " + s + ")", () -> model.colour(r, s), () -> x.colour(r, s));
                compare("luminance(" + r + ", " + s + ")", () -> model.luminance(r, s), () -> x.luminance(r, s));
            }
        }
        forEachRule("need", rs -> model.need(rs[0], rs[1]), rs -> x.need(rs[0], rs[1]));
        forEachRule("value", rs -> model.value(rs[0], rs[1]), rs -> x.value(rs[0], rs[1]));
    }

    private static void forEachRule(String call, Function<int[], Object> due, Function<int[], Object> got) {
        for (int rule = 0; rule < model.ruleCount(); rule++) {
            for (int scheme = 0; scheme < 2; scheme++) {
                int[] rs = {rule, scheme};
                compare(call + "(" + rule + ", " + scheme + ")", () -> due.apply(rs), () -> got.apply(rs));
            }
        }
    }
}
