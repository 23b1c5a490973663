import java.math.BigInteger;
import java.util.ArrayDeque;
import java.util.ArrayList;
import java.util.Deque;
import java.util.List;
import java.util.NoSuchElementException;
import java.util.regex.Matcher;
import java.util.regex.Pattern;

/**
 * The document once more, written in another way and with the Java library, for ModelTest to compare with:
 * the floor is a tree, and each change puts a copy of everything on a stack.
 */
final class Model {
    /** A colour, or what is seen of it. */
    record Rgb(int r, int g, int b) {
        static Rgb of(int number) {
            return new Rgb(number >> 16, number >> 8 & 255, number & 255);
        }

        int number() {
            return r << 16 | g << 8 | b;
        }

        int luminance() {
            return (int) ((2126L * r * r + 7152L * g * g + 722L * b * b) / 10000);
        }

        Rgb moved(int d) {
            return new Rgb(channel(r + d), channel(g + d), channel(b + d));
        }

        Rgb seen(int sight) {
            switch (sight) {
                case 1:
                    return new Rgb(channel((152 * r + 1053 * g - 205 * b) / 1000),
                        channel((115 * r + 786 * g + 99 * b) / 1000), channel((-4 * r - 48 * g + 1052 * b) / 1000));
                case 2:
                    return new Rgb(channel((367 * r + 861 * g - 228 * b) / 1000),
                        channel((280 * r + 673 * g + 47 * b) / 1000), channel((-12 * r + 43 * g + 969 * b) / 1000));
                case 3:
                    return new Rgb(channel((1256 * r - 77 * g - 179 * b) / 1000),
                        channel((-78 * r + 930 * g + 148 * b) / 1000), channel((5 * r + 691 * g + 304 * b) / 1000));
                case 4:
                    int grey = channel((299 * r + 587 * g + 114 * b) / 1000);
                    return new Rgb(grey, grey, grey);
                default:
                    return this;
            }
        }

        int difference(Rgb other) {
            return 3 * Math.abs(r - other.r) + 4 * Math.abs(g - other.g) + 2 * Math.abs(b - other.b);
        }

        int contrast(Rgb other) {
            int high = Math.max(luminance(), other.luminance()) + 3251;
            int low = Math.min(luminance(), other.luminance()) + 3251;
            return 100 * high / low;
        }

        private static int channel(int n) {
            return n < 0 ? 0 : Math.min(n, 255);
        }
    }

    record Role(Rgb light, Rgb dark, boolean fixed) {
        Rgb in(int scheme) {
            return scheme == 0 ? light : dark;
        }

        Role with(int scheme, Rgb colour) {
            return scheme == 0 ? new Role(colour, dark, fixed) : new Role(light, colour, fixed);
        }
    }

    interface Expression {
        long at(int size, int scheme);
    }

    /** A text rule has sight -1 and its size, a distinct rule its need. */
    record Rule(int first, int second, int sight, int amount) {
    }

    record Data(List<Role> roles, List<Rule> rules, Expression floor) {
        Data withRole(int role, Role changed) {
            List<Role> copy = new ArrayList<>(roles);
            copy.set(role, changed);
            return new Data(copy, rules, floor);
        }

        int need(int rule, int scheme) {
            Rule r = rules.get(rule);
            if (r.sight >= 0) {
                return r.amount;
            }
            return floor == null ? 450 : (int) Math.max(100, Math.min(2100, floor.at(r.amount, scheme)));
        }

        int value(int rule, int scheme) {
            Rule r = rules.get(rule);
            Rgb a = roles.get(r.first).in(scheme);
            Rgb b = roles.get(r.second).in(scheme);
            return r.sight < 0 ? a.contrast(b) : a.seen(r.sight).difference(b.seen(r.sight));
        }

        boolean kept(int rule, int scheme) {
            return value(rule, scheme) >= need(rule, scheme);
        }

        long broken(int scheme) {
            long n = 0;
            for (int i = 0; i < rules.size(); i++) {
                n += kept(i, scheme) ? 0 : 1;
            }
            return n;
        }

        /** Rule and scheme of each violation. */
        List<int[]> violations() {
            List<int[]> all = new ArrayList<>();
            for (int rule = 0; rule < rules.size(); rule++) {
                for (int scheme = 0; scheme < 2; scheme++) {
                    if (!kept(rule, scheme)) {
                        all.add(new int[] {rule, scheme});
                    }
                }
            }
            return all;
        }

        Data shifted(int role, int scheme, int d) {
            Role r = roles.get(role);
            return withRole(role, r.with(scheme, r.in(scheme).moved(d)));
        }

        /** Amount and role of the best shift, or null. */
        int[] best(int rule, int scheme) {
            int[] best = null;
            for (int role : new int[] {rules.get(rule).second, rules.get(rule).first}) {
                if (roles.get(role).fixed) {
                    continue;
                }
                for (int d = -255; d <= 255; d++) {
                    Data then = shifted(role, scheme, d);
                    if (then.kept(rule, scheme) && then.broken(scheme) < broken(scheme)) {
                        boolean better = best == null || Math.abs(d) < Math.abs(best[0])
                            || Math.abs(d) == Math.abs(best[0]) && d >= best[0];
                        best = better ? new int[] {d, role} : best;
                    }
                }
            }
            return best;
        }
    }

    static final class SetupError extends Exception {
        private static final long serialVersionUID = 1L;
        final int code;
        final int offset;

        SetupError(int code, int offset) {
            super(code + " at " + offset, null, false, false);
            this.code = code;
            this.offset = offset;
        }
    }

    /** Reads a setup text. */
    static final class Reader {
        private static final Pattern TOKEN = Pattern.compile(" *([0-9]+|[a-z]+|[^ ])", Pattern.DOTALL);
        private final List<String> tokens = new ArrayList<>();
        private final List<Integer> offsets = new ArrayList<>();
        private int at = 0;

        Reader(String text) {
            Matcher matcher = TOKEN.matcher(text);
            int from = 0;
            while (matcher.find(from) && matcher.start() == from) {
                tokens.add(matcher.group(1));
                offsets.add(matcher.start(1));
                from = matcher.end();
            }
            tokens.add("");
            offsets.add(text.length());
        }

        Data read() throws SetupError {
            List<Role> roles = new ArrayList<>();
            List<Rule> rules = new ArrayList<>();
            Expression floor = null;
            pass("scheme");
            pass(";");
            while (!tokens.get(at).isEmpty()) {
                String word = tokens.get(at);
                if (word.equals("role")) {
                    roles.add(role(roles.size()));
                } else if (word.equals("text") || word.equals("distinct")) {
                    rules.add(rule(roles.size(), rules.size()));
                } else if (word.equals("floor") && floor == null) {
                    at++;
                    floor = sum(0);
                } else {
                    throw error(-2);
                }
                pass(";");
            }
            return new Data(roles, rules, floor);
        }

        private Role role(int before) throws SetupError {
            if (before == 10) {
                throw error(-4);
            }
            pass("role");
            Rgb light = new Rgb(number(0, 255), number(0, 255), number(0, 255));
            Rgb dark = new Rgb(255 - light.r, 255 - light.g, 255 - light.b);
            if (is("dark")) {
                pass("dark");
                dark = new Rgb(number(0, 255), number(0, 255), number(0, 255));
            }
            boolean fixed = is("fixed");
            at += fixed ? 1 : 0;
            return new Role(light, dark, fixed);
        }

        private Rule rule(int roles, int before) throws SetupError {
            if (before == 12) {
                throw error(-4);
            }
            boolean text = is("text");
            at++;
            int first = number(0, roles - 1);
            int place = at;
            int second = number(0, roles - 1);
            if (second == first) {
                throw new SetupError(-3, offsets.get(place));
            }
            return text ? new Rule(first, second, -1, number(1, 9))
                : new Rule(first, second, number(0, 4), number(1, 2295));
        }

        private Expression sum(int depth) throws SetupError {
            Expression left = term(depth);
            while (is("+") || is("-")) {
                Expression a = left;
                int sign = is("+") ? 1 : -1;
                at++;
                Expression b = term(depth);
                left = (size, scheme) -> limit(a.at(size, scheme) + sign * b.at(size, scheme));
            }
            return left;
        }

        private Expression term(int depth) throws SetupError {
            Expression left = factor(depth);
            while (is("*") || is("/")) {
                Expression a = left;
                boolean times = is("*");
                at++;
                Expression b = factor(depth);
                left = (size, scheme) -> {
                    long x = a.at(size, scheme);
                    long y = b.at(size, scheme);
                    return limit(times ? x * y : y == 0 ? 0 : x / y);
                };
            }
            return left;
        }

        private Expression factor(int depth) throws SetupError {
            if (is("size") || is("scheme")) {
                boolean isSize = is("size");
                at++;
                return (size, scheme) -> isSize ? size : scheme;
            }
            if (is("(")) {
                if (depth == 4) {
                    throw error(-5);
                }
                at++;
                Expression inner = sum(depth + 1);
                pass(")");
                return inner;
            }
            int constant = number(0, 9999);
            return (size, scheme) -> constant;
        }

        private static long limit(long n) {
            return Math.max(-1000000L, Math.min(1000000L, n));
        }

        private boolean is(String token) {
            return tokens.get(at).equals(token);
        }

        private void pass(String token) throws SetupError {
            if (!is(token)) {
                throw error(-2);
            }
            at++;
        }

        private int number(int low, int high) throws SetupError {
            if (!tokens.get(at).matches("[0-9]+")) {
                throw error(-2);
            }
            BigInteger n = new BigInteger(tokens.get(at));
            if (n.compareTo(BigInteger.valueOf(low)) < 0 || n.compareTo(BigInteger.valueOf(high)) > 0) {
                throw error(-3);
            }
            at++;
            return n.intValue();
        }

        private SetupError error(int code) {
            return new SetupError(code, offsets.get(at));
        }
    }

    private Data data = new Data(new ArrayList<>(), new ArrayList<>(), null);
    private final Deque<Data> before = new ArrayDeque<>();
    private String buffer = "";
    private int errorOffset = -1;

    int append(int... words) {
        if (buffer.length() + 20 > 700) {
            return -1;
        }
        StringBuilder more = new StringBuilder(buffer);
        for (int word : words) {
            for (int bits = 24; bits >= 0; bits -= 8) {
                more.append((char) (word >>> bits & 255));
            }
        }
        buffer = more.toString();
        return buffer.length();
    }

    int load(int length) {
        if (length < 0 || length > buffer.length()) {
            throw new IllegalArgumentException();
        }
        String text = buffer.substring(0, length);
        buffer = "";
        try {
            Data read = new Reader(text).read();
            change(read);
            errorOffset = -1;
            return read.rules.size();
        } catch (SetupError e) {
            errorOffset = e.offset;
            return e.code;
        }
    }

    int errorOffset() {
        return errorOffset;
    }

    int roleCount() {
        return data.roles.size();
    }

    int ruleCount() {
        return data.rules.size();
    }

    int colour(int role, int scheme) {
        return role(role, scheme).number();
    }

    boolean isFixed(int role) {
        return role(role, 0) != null && data.roles.get(role).fixed;
    }

    int luminance(int role, int scheme) {
        return role(role, scheme).luminance();
    }

    int contrast(int first, int second, int scheme) {
        return role(first, scheme).contrast(role(second, scheme));
    }

    int seen(int role, int scheme, int sight) {
        Rgb colour = role(role, scheme);
        allow(sight >= 0 && sight <= 4);
        return colour.seen(sight).number();
    }

    int difference(int first, int second, int scheme, int sight) {
        Rgb a = role(first, scheme);
        Rgb b = role(second, scheme);
        allow(sight >= 0 && sight <= 4);
        return a.seen(sight).difference(b.seen(sight));
    }

    int nearest(int colour, int scheme) {
        find(scheme, 2);
        allow(colour >= 0 && colour <= 0xffffff);
        int best = -1;
        for (int i = data.roles.size() - 1; i >= 0; i--) {
            Rgb asked = Rgb.of(colour);
            if (best < 0 || role(i, scheme).difference(asked) <= role(best, scheme).difference(asked)) {
                best = i;
            }
        }
        return best;
    }

    int need(int rule, int scheme) {
        findRule(rule, scheme);
        return data.need(rule, scheme);
    }

    int value(int rule, int scheme) {
        findRule(rule, scheme);
        return data.value(rule, scheme);
    }

    int violations() {
        return data.violations().size();
    }

    int violation(int index) {
        List<int[]> all = data.violations();
        if (index < 0 || index >= all.size()) {
            throw new NoSuchElementException();
        }
        return 10 * all.get(index)[0] + all.get(index)[1];
    }

    int smallestMargin(int scheme) {
        find(scheme, 2);
        int smallest = 9999;
        for (int i = 0; i < data.rules.size(); i++) {
            smallest = Math.min(smallest, data.value(i, scheme) - data.need(i, scheme));
        }
        return smallest;
    }

    int bestShift(int rule, int scheme) {
        findRule(rule, scheme);
        if (data.kept(rule, scheme)) {
            return 0;
        }
        int[] best = data.best(rule, scheme);
        return best == null ? 9999 : best[0];
    }

    int shiftRole(int rule, int scheme) {
        findRule(rule, scheme);
        int[] best = data.kept(rule, scheme) ? null : data.best(rule, scheme);
        return best == null ? -1 : best[1];
    }

    int setColour(int role, int scheme, int colour) {
        int old = role(role, scheme).number();
        allow(colour >= 0 && colour <= 0xffffff);
        change(data.withRole(role, data.roles.get(role).with(scheme, Rgb.of(colour))));
        return old;
    }

    boolean setFixed(int role, boolean fixed) {
        boolean old = isFixed(role);
        Role r = data.roles.get(role);
        change(data.withRole(role, new Role(r.light, r.dark, fixed)));
        return old;
    }

    int shift(int role, int scheme, int amount) {
        role(role, scheme);
        allow(amount >= -255 && amount <= 255);
        if (data.roles.get(role).fixed) {
            throw new IllegalStateException();
        }
        change(data.shifted(role, scheme, amount));
        return colour(role, scheme);
    }

    int repair(int most) {
        allow(most >= 1 && most <= 6);
        Data now = data;
        int made = 0;
        boolean found = true;
        while (found && made < most) {
            found = false;
            for (int[] v : now.violations()) {
                int[] best = now.best(v[0], v[1]);
                if (best != null) {
                    now = now.shifted(best[1], v[1], best[0]);
                    made++;
                    found = true;
                    break;
                }
            }
        }
        change(now);
        return made;
    }

    int swapSchemes() {
        List<Role> swapped = new ArrayList<>();
        for (Role r : data.roles) {
            swapped.add(new Role(r.dark, r.light, r.fixed));
        }
        change(new Data(swapped, data.rules, data.floor));
        return violations();
    }

    int undo() {
        if (before.isEmpty()) {
            return -1;
        }
        data = before.pop();
        return before.size();
    }

    long checksum() {
        BigInteger sum = BigInteger.ZERO;
        List<Integer> numbers = new ArrayList<>();
        for (Role r : data.roles) {
            numbers.add(r.light.number());
            numbers.add(r.dark.number());
            numbers.add(r.fixed ? 1 : 0);
        }
        for (int i = 0; i < data.rules.size(); i++) {
            numbers.add(data.value(i, 0));
            numbers.add(data.value(i, 1));
        }
        for (int n : numbers) {
            sum = sum.multiply(BigInteger.valueOf(31)).add(BigInteger.valueOf(n));
        }
        return sum.longValue();
    }

    private void change(Data then) {
        before.push(data);
        if (before.size() > 8) {
            before.removeLast();
        }
        data = then;
    }

    private Rgb role(int role, int scheme) {
        find(role, data.roles.size());
        find(scheme, 2);
        return data.roles.get(role).in(scheme);
    }

    private void findRule(int rule, int scheme) {
        find(rule, data.rules.size());
        find(scheme, 2);
    }

    private static void find(int index, int count) {
        if (index < 0 || index >= count) {
            throw new IndexOutOfBoundsException();
        }
    }

    private static void allow(boolean allowed) {
        if (!allowed) {
            throw new IllegalArgumentException();
        }
    }
}
