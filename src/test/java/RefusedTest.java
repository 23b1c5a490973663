import java.util.function.Consumer;
import java.util.function.Supplier;

/**
 * A refused call changes nothing, and of several exceptions the one that is listed first is thrown. Each refused
 * call is made on one of two objects that are alike; then all that both hold is compared, until they are used up.
 */
public final class RefusedTest {
    private static final Check check = new Check();
    private static final Class<?> NO_INDEX = IndexOutOfBoundsException.class;
    private static final Class<?> NOT_ALLOWED = IllegalArgumentException.class;
    private static final Class<?> NOT_NOW = IllegalStateException.class;
    private static final Class<?> NONE = java.util.NoSuchElementException.class;
    private static final int MOST = Integer.MAX_VALUE;
    private static final int LEAST = Integer.MIN_VALUE;
    private static final int[] NO_ROLE = {LEAST, -1, 3, 10, MOST};
    private static final int[] NO_RULE = {LEAST, -1, 2, 12, MOST};
    private static final int[] NO_SCHEME = {LEAST, -1, 2, MOST};
    private static final int[] NO_SIGHT = {LEAST, -1, 5, MOST};
    private static final int[] NO_COLOUR = {LEAST, -1, 16777216, MOST};
    private static final int[] NO_AMOUNT = {LEAST, -256, 256, MOST};

    public static void main(String[] args) {
        loads();
        rolesAndSchemes();
        pairsOfRoles();
        sights();
        nearests();
        rules();
        violations();
        margins();
        setColours();
        setFixeds();
        shifts();
        repairs();
        appends();
        undos();
        questions();
        withoutRoles();
        check.end("RefusedTest");
    }

    /** Three roles of which 1 and 2 are fixed, two rules, five changes, an error offset, and a text in the buffer. */
    private static ColorScheme busy() {
        ColorScheme x = Check.loaded("scheme;role 10 20 30;role 200 210 220 dark 4 5 6 fixed;role 99 99 99;"
            + "text 0 1 3;distinct 2 0 1 700;floor 300+size*10-scheme;");
        x.setColour(2, 0, 0x010203);
        x.shift(0, 1, -7);
        x.setFixed(2, true);
        x.repair(1);
        x.swapSchemes();
        x.undo();
        Check.load(x, "scheme;role 1 1 1;?");
        Check.fill(x, "scheme;role 7 8 9;  ");
        return x;
    }

    private interface Call {
        Object on(ColorScheme x);
    }

    private static void refused(String what, Class<?> due, Call call) {
        ColorScheme x = busy();
        check.refuses(what, due, () -> call.on(x));
        check.same("all that is held after " + what, State.whole(busy()), State.whole(x));
    }

    private static void answered(String what, Object due, Supplier<ColorScheme> made, Call call) {
        ColorScheme x = made.get();
        check.same(what, due, call.on(x));
        check.same("all that is held after " + what, State.whole(made.get()), State.whole(x));
    }

    private static void loads() {
        check.says("load: if length is negative or greater than the length of the buffer");
        for (int length : new int[] {LEAST, -1, 21, 700, 701, MOST}) {
            refused("load(" + length + ")", NOT_ALLOWED, x -> x.load(length));
        }
    }

    private static void rolesAndSchemes() {
        check.says("colour, luminance, isFixed: if there is no such role or scheme");
        for (int role : NO_ROLE) {
            refused("colour of role " + role, NO_INDEX, x -> x.colour(role, 0));
            refused("luminance of role " + role, NO_INDEX, x -> x.luminance(role, 1));
            refused("isFixed of role " + role, NO_INDEX, x -> x.isFixed(role));
            refused("colour of role " + role + " in scheme 2", NO_INDEX, x -> x.colour(role, 2));
            refused("luminance of role " + role + " in scheme -1", NO_INDEX, x -> x.luminance(role, -1));
        }
        for (int scheme : NO_SCHEME) {
            refused("colour in scheme " + scheme, NO_INDEX, x -> x.colour(2, scheme));
            refused("luminance in scheme " + scheme, NO_INDEX, x -> x.luminance(2, scheme));
        }
    }

    private static void pairsOfRoles() {
        check.says("contrast: if there is no such role or scheme");
        for (int role : NO_ROLE) {
            refused("contrast of role " + role, NO_INDEX, x -> x.contrast(role, 0, 0));
            refused("contrast with role " + role, NO_INDEX, x -> x.contrast(0, role, 0));
            refused("contrast of role " + role + " with itself", NO_INDEX, x -> x.contrast(role, role, 1));
        }
        for (int scheme : NO_SCHEME) {
            refused("contrast in scheme " + scheme, NO_INDEX, x -> x.contrast(0, 1, scheme));
        }
    }

    private static void sights() {
        check.says("seen, difference: no such role or scheme before a sight that is not 0 to 4");
        for (int sight : NO_SIGHT) {
            refused("seen with " + sight, NOT_ALLOWED, x -> x.seen(0, 0, sight));
            refused("difference with " + sight, NOT_ALLOWED, x -> x.difference(0, 1, 0, sight));
            for (int role : NO_ROLE) {
                refused("seen role " + role + " with " + sight, NO_INDEX, x -> x.seen(role, 0, sight));
                refused("difference of role " + role + " with " + sight, NO_INDEX, x -> x.difference(role, 0, 0, sight));
                refused("difference to role " + role + " with " + sight, NO_INDEX, x -> x.difference(0, role, 0, sight));
            }
            for (int scheme : NO_SCHEME) {
                refused("seen in scheme " + scheme + " with " + sight, NO_INDEX, x -> x.seen(0, scheme, sight));
                refused("difference in scheme " + scheme + " with " + sight, NO_INDEX,
                    x -> x.difference(0, 1, scheme, sight));
            }
        }
        for (int role : NO_ROLE) {
            refused("seen role " + role, NO_INDEX, x -> x.seen(role, 0, 4));
            refused("difference of role " + role, NO_INDEX, x -> x.difference(role, 0, 0, 4));
            refused("difference to role " + role, NO_INDEX, x -> x.difference(0, role, 0, 4));
        }
        for (int scheme : NO_SCHEME) {
            refused("seen in scheme " + scheme, NO_INDEX, x -> x.seen(0, scheme, 0));
            refused("difference in scheme " + scheme, NO_INDEX, x -> x.difference(0, 1, scheme, 0));
        }
    }

    private static void nearests() {
        check.says("nearest: no such scheme before a colour out of range");
        for (int colour : NO_COLOUR) {
            refused("nearest to " + colour, NOT_ALLOWED, x -> x.nearest(colour, 1));
            for (int scheme : NO_SCHEME) {
                refused("nearest to " + colour + " in scheme " + scheme, NO_INDEX, x -> x.nearest(colour, scheme));
            }
        }
        for (int scheme : NO_SCHEME) {
            refused("nearest in scheme " + scheme, NO_INDEX, x -> x.nearest(0, scheme));
        }
    }

    private static void rules() {
        check.says("need, value, bestShift, shiftRole: if there is no such rule or scheme");
        for (int rule : NO_RULE) {
            for (int scheme : new int[] {0, 1, 2, -1}) {
                refused("need of rule " + rule, NO_INDEX, x -> x.need(rule, scheme));
                refused("value of rule " + rule, NO_INDEX, x -> x.value(rule, scheme));
                refused("bestShift of rule " + rule, NO_INDEX, x -> x.bestShift(rule, scheme));
                refused("shiftRole of rule " + rule, NO_INDEX, x -> x.shiftRole(rule, scheme));
            }
        }
        for (int scheme : NO_SCHEME) {
            refused("need in scheme " + scheme, NO_INDEX, x -> x.need(0, scheme));
            refused("value in scheme " + scheme, NO_INDEX, x -> x.value(1, scheme));
            refused("bestShift in scheme " + scheme, NO_INDEX, x -> x.bestShift(0, scheme));
            refused("shiftRole in scheme " + scheme, NO_INDEX, x -> x.shiftRole(1, scheme));
        }
    }

    private static void violations() {
        check.says("violation: if there is no such violation");
        int count = busy().violations();
        for (int index : new int[] {LEAST, -1, count, count + 1, MOST}) {
            refused("violation(" + index + ")", NONE, x -> x.violation(index));
        }
    }

    private static void margins() {
        check.says("smallestMargin: if there is no such scheme");
        for (int scheme : NO_SCHEME) {
            refused("smallestMargin(" + scheme + ")", NO_INDEX, x -> x.smallestMargin(scheme));
        }
    }

    private static void setColours() {
        check.says("setColour: no such role or scheme before a colour out of range");
        for (int colour : NO_COLOUR) {
            refused("setColour to " + colour, NOT_ALLOWED, x -> x.setColour(0, 0, colour));
            refused("setColour of a fixed role to " + colour, NOT_ALLOWED, x -> x.setColour(1, 1, colour));
            for (int role : NO_ROLE) {
                refused("setColour of role " + role + " to " + colour, NO_INDEX, x -> x.setColour(role, 0, colour));
            }
            for (int scheme : NO_SCHEME) {
                refused("setColour in scheme " + scheme + " to " + colour, NO_INDEX, x -> x.setColour(0, scheme, colour));
            }
        }
        for (int role : NO_ROLE) {
            refused("setColour of role " + role, NO_INDEX, x -> x.setColour(role, 0, 0));
        }
        for (int scheme : NO_SCHEME) {
            refused("setColour in scheme " + scheme, NO_INDEX, x -> x.setColour(0, scheme, 0));
        }
    }

    private static void setFixeds() {
        check.says("setFixed: if there is no such role");
        for (int role : NO_ROLE) {
            refused("setFixed(" + role + ", true)", NO_INDEX, x -> x.setFixed(role, true));
            refused("setFixed(" + role + ", false)", NO_INDEX, x -> x.setFixed(role, false));
        }
    }

    private static void shifts() {
        check.says("shift: no such role or scheme, before an amount out of range, before a fixed role");
        refused("shift of a fixed role", NOT_NOW, x -> x.shift(1, 0, 1));
        refused("shift of a fixed role in dark", NOT_NOW, x -> x.shift(2, 1, -255));
        refused("shift of a fixed role by 0", NOT_NOW, x -> x.shift(1, 0, 0));
        for (int amount : NO_AMOUNT) {
            refused("shift by " + amount, NOT_ALLOWED, x -> x.shift(0, 0, amount));
            refused("shift of a fixed role by " + amount, NOT_ALLOWED, x -> x.shift(1, 1, amount));
            for (int role : NO_ROLE) {
                refused("shift of role " + role + " by " + amount, NO_INDEX, x -> x.shift(role, 0, amount));
            }
            for (int scheme : NO_SCHEME) {
                refused("shift in scheme " + scheme + " by " + amount, NO_INDEX, x -> x.shift(0, scheme, amount));
                refused("the same of a fixed role", NO_INDEX, x -> x.shift(2, scheme, amount));
            }
        }
        for (int role : NO_ROLE) {
            refused("shift of role " + role, NO_INDEX, x -> x.shift(role, 1, 1));
        }
        for (int scheme : NO_SCHEME) {
            refused("shift in scheme " + scheme, NO_INDEX, x -> x.shift(0, scheme, 1));
            refused("shift of a fixed role in scheme " + scheme, NO_INDEX, x -> x.shift(1, scheme, 1));
        }
    }

    private static void repairs() {
        check.says("repair: if most is out of range");
        for (int most : new int[] {LEAST, -1, 0, 7, MOST}) {
            refused("repair(" + most + ")", NOT_ALLOWED, x -> x.repair(most));
        }
    }

    private static ColorScheme full() {
        ColorScheme x = busy();
        Check.fill(x, " ".repeat(660) + " role 253 254 255;  ");
        return x;
    }

    private static void appends() {
        check.says("-1 if it would exceed 700 bytes, and the buffer is unchanged then");
        for (int word : new int[] {LEAST, -1, 0, 0x3b3b3b3b, 0x20202020, MOST}) {
            answered("append beyond 700", -1, RefusedTest::full, x -> x.append(word, word, word, word, word));
        }
    }

    private static ColorScheme allUndone() {
        ColorScheme x = busy();
        for (int i = 0; i < 8; i++) {
            x.undo();
        }
        return x;
    }

    private static void undos() {
        check.says("-1 if there was none to undo, and nothing changes then");
        answered("undo of nothing", -1, RefusedTest::allUndone, ColorScheme::undo);
        answered("undo of a new object", -1, ColorScheme::new, ColorScheme::undo);
    }

    private static void ask(Call call) {
        ColorScheme x = busy();
        Object first = call.on(x);
        check.same("the same answer again", first, call.on(x));
        check.same("all that is held after a question", State.whole(busy()), State.whole(x));
    }

    private static void questions() {
        check.says("The changing methods are load, setColour, setFixed, shift, repair and swapSchemes:"
            + " the others change nothing");
        ask(x -> x.errorOffset());
        ask(x -> x.roleCount());
        ask(x -> x.ruleCount());
        ask(x -> x.colour(0, 1));
        ask(x -> x.isFixed(1));
        ask(x -> x.luminance(2, 0));
        ask(x -> x.contrast(0, 1, 0));
        ask(x -> x.seen(0, 0, 3));
        ask(x -> x.difference(0, 1, 0, 2));
        ask(x -> x.nearest(0x808080, 1));
        ask(x -> x.need(0, 0));
        ask(x -> x.value(1, 1));
        ask(x -> x.violations());
        ask(x -> x.violation(0));
        ask(x -> x.smallestMargin(1));
        ask(x -> x.bestShift(0, 0));
        ask(x -> x.bestShift(1, 1));
        ask(x -> x.shiftRole(0, 1));
        ask(x -> x.shiftRole(1, 0));
        ask(x -> x.checksum());
    }

    private static void refusedWithout(String what, Class<?> due, Consumer<ColorScheme> call) {
        ColorScheme x = new ColorScheme();
        check.refuses(what + " without roles", due, () -> {
            call.accept(x);
            return "nothing";
        });
        check.same("all that is held after " + what, State.whole(new ColorScheme()), State.whole(x));
    }

    private static void withoutRoles() {
        check.says("Before the first successful load there are no roles and rules.");
        for (int index : new int[] {-1, 0, 1}) {
            refusedWithout("colour", NO_INDEX, x -> x.colour(index, 0));
            refusedWithout("isFixed", NO_INDEX, x -> x.isFixed(index));
            refusedWithout("luminance", NO_INDEX, x -> x.luminance(index, 0));
            refusedWithout("contrast", NO_INDEX, x -> x.contrast(index, index, 0));
            refusedWithout("seen", NO_INDEX, x -> x.seen(index, 0, 5));
            refusedWithout("difference", NO_INDEX, x -> x.difference(index, index, 0, 5));
            refusedWithout("need", NO_INDEX, x -> x.need(index, 0));
            refusedWithout("value", NO_INDEX, x -> x.value(index, 0));
            refusedWithout("violation", NONE, x -> x.violation(index));
            refusedWithout("bestShift", NO_INDEX, x -> x.bestShift(index, 0));
            refusedWithout("shiftRole", NO_INDEX, x -> x.shiftRole(index, 0));
            refusedWithout("setColour", NO_INDEX, x -> x.setColour(index, 0, -1));
            refusedWithout("setFixed", NO_INDEX, x -> x.setFixed(index, true));
            refusedWithout("shift", NO_INDEX, x -> x.shift(index, 0, 256));
        }
        refusedWithout("nearest to -1", NOT_ALLOWED, x -> x.nearest(-1, 0));
        refusedWithout("nearest in scheme 2", NO_INDEX, x -> x.nearest(-1, 2));
        refusedWithout("smallestMargin", NO_INDEX, x -> x.smallestMargin(2));
        refusedWithout("repair", NOT_ALLOWED, x -> x.repair(0));
        refusedWithout("load", NOT_ALLOWED, x -> x.load(1));
    }
}
