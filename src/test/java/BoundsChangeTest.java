import java.util.ArrayList;
import java.util.List;
import java.util.function.Consumer;

/** Each sentence of the changes and of promises 21 to 27 that names a boundary case: a method for each. */
public final class BoundsChangeTest {
    private static final Check check = new Check();
    private static final Object NO_INDEX = IndexOutOfBoundsException.class;
    private static final Object NOT_ALLOWED = IllegalArgumentException.class;
    private static final Object NOT_NOW = IllegalStateException.class;
    private static final int MOST = Integer.MAX_VALUE;
    private static final int LEAST = Integer.MIN_VALUE;
    private static final int SPACES = 0x20202020;
    private static final String TWO = "scheme;role 10 20 30;role 1 2 3 dark 4 5 6 fixed;";

    public static void main(String[] args) {
        setsColours();
        boundsColours();
        setsColoursOfFixedRoles();
        setsFixed();
        shiftsByAmounts();
        shiftsNoFixedRole();
        repairsAtMost();
        repairsAsLongAsThereIsOne();
        repairsTheFirst();
        repairsTheLast();
        repairsAgainFromTheFirst();
        repairsNoFixedRoles();
        repairsByBestShifts();
        boundsMost();
        swapsAll();
        countsViolationsThen();
        countsEachChange();
        countsNoOtherCall();
        countsChangesWithoutEffect();
        undoesTheLatestEight();
        undoesTheLatestFirst();
        undoesAfterUndoing();
        undoesNothing();
        leavesBufferAndOffset();
        undoesWholeLoads();
        undoesRepairsAtOnce();
        sumsFromZero();
        sumsInOrder();
        wrapsAround();
        holdsFor512Calls();
        check.end("BoundsChangeTest");
    }

    private static void setsColours() {
        check.says("Sets a colour. Returns the previous colour as a number.");
        for (int scheme = 0; scheme < 2; scheme++) {
            ColorScheme x = Check.loaded("scheme;" + "role 1 2 3 dark 1 2 3;".repeat(10));
            for (int role : new int[] {0, 9}) {
                check.same("the first colour", 0x010203, x.setColour(role, scheme, 16777215));
                check.same("the greatest one", 16777215, x.setColour(role, scheme, 0));
                check.same("the least one", 0, x.colour(role, scheme));
                check.same("the other scheme", 0x010203, x.colour(role, 1 - scheme));
            }
            for (int role = 1; role < 9; role++) {
                check.same("the other roles", 0x010203, x.colour(role, scheme));
            }
        }
    }

    private static void boundsColours() {
        check.says("setColour: if there is no such role or scheme; if colour is out of range");
        int[] colours = {LEAST, -16777216, -1, 0, 1, 16777214, 16777215, 16777216, 16777217, MOST};
        for (int colour : colours) {
            ColorScheme x = Check.loaded(TWO);
            boolean allowed = colour >= 0 && colour <= 0xffffff;
            check.answers("colour " + colour, allowed ? (Object) 0x0a141e : NOT_ALLOWED, () -> x.setColour(0, 0, colour));
            check.same("the colour then", allowed ? colour : 0x0a141e, x.colour(0, 0));
        }
        ColorScheme x = Check.loaded(TWO);
        for (int role : new int[] {LEAST, -1, 2, 9, 10, MOST}) {
            check.answers("role " + role, NO_INDEX, () -> x.setColour(role, 0, 5));
        }
        for (int scheme : new int[] {LEAST, -1, 2, MOST}) {
            check.answers("scheme " + scheme, NO_INDEX, () -> x.setColour(0, scheme, 5));
        }
        check.answers("the last role and scheme", 0x040506, () -> x.setColour(1, 1, 5));
    }

    private static void setsColoursOfFixedRoles() {
        check.says("Sets a colour (also of a fixed role).");
        ColorScheme x = Check.loaded(TWO);
        check.same("light", 0x010203, x.setColour(1, 0, 7));
        check.same("dark", 0x040506, x.setColour(1, 1, 8));
        check.same("light then", 7, x.colour(1, 0));
        check.same("dark then", 8, x.colour(1, 1));
        check.same("it stays fixed", true, x.isFixed(1));
    }

    private static void setsFixed() {
        check.says("Makes a role fixed, or not fixed. Returns whether it was fixed. If there is no such role");
        for (boolean was : new boolean[] {false, true}) {
            for (boolean then : new boolean[] {false, true}) {
                ColorScheme x = Check.loaded("scheme;role 5 5 5" + (was ? " fixed" : "") + ";role 6 6 6;");
                check.same("whether it was", was, x.setFixed(0, then));
                check.same("whether it is", then, x.isFixed(0));
                check.same("the other role", false, x.isFixed(1));
                check.same("its colour", 0x050505, x.colour(0, 0));
            }
        }
        ColorScheme often = Check.loaded("scheme;role 5 5 5;");
        boolean[] fixed = {true, true, false, false, true, false};
        for (int i = 0; i < fixed.length; i++) {
            check.same("whether it was, call " + i, i > 0 && fixed[i - 1], often.setFixed(0, fixed[i]));
        }
        ColorScheme x = Check.loaded(TWO);
        int[] roles = {LEAST, -1, 0, 1, 2, 9, 10, MOST};
        Object[] due = {NO_INDEX, NO_INDEX, false, true, NO_INDEX, NO_INDEX, NO_INDEX, NO_INDEX};
        for (int i = 0; i < roles.length; i++) {
            int role = roles[i];
            check.answers("role " + role, due[i], () -> x.setFixed(role, true));
        }
    }

    private static void shiftsByAmounts() {
        check.says("shift: if there is no such role or scheme; if amount is out of range");
        int[] amounts = {LEAST, -257, -256, -255, -254, -1, 0, 1, 254, 255, 256, 257, MOST};
        Object[] due = {NOT_ALLOWED, NOT_ALLOWED, NOT_ALLOWED, 0, 0, 0x00637e, 0x01647f, 0x026580, 0xffffff, 0xffffff,
            NOT_ALLOWED, NOT_ALLOWED, NOT_ALLOWED};
        for (int i = 0; i < amounts.length; i++) {
            int amount = amounts[i];
            ColorScheme x = Check.loaded("scheme;role 1 100 127;");
            check.answers("by " + amount, due[i], () -> x.shift(0, 0, amount));
            check.same("the colour then", due[i] instanceof Integer ? due[i] : 0x01647f, x.colour(0, 0));
        }
        ColorScheme white = Check.loaded("scheme;role 255 255 255;");
        check.same("white by -254", 0x010101, white.shift(0, 0, -254));
        check.same("black by 254", 0xfefefe, Check.loaded("scheme;role 0 0 0;").shift(0, 0, 254));
        ColorScheme x = Check.loaded(TWO);
        for (int role : new int[] {LEAST, -1, 2, 9, 10, MOST}) {
            check.answers("role " + role, NO_INDEX, () -> x.shift(role, 0, 1));
        }
        for (int scheme : new int[] {LEAST, -1, 2, MOST}) {
            check.answers("scheme " + scheme, NO_INDEX, () -> x.shift(0, scheme, 1));
        }
        check.answers("the dark scheme", 0xf6ece2, () -> x.shift(0, 1, 1));
    }

    private static void shiftsNoFixedRole() {
        check.says("shift: if the role is fixed");
        ColorScheme x = Check.loaded(TWO);
        check.answers("a fixed role", NOT_NOW, () -> x.shift(1, 0, 1));
        check.answers("by nothing", NOT_NOW, () -> x.shift(1, 1, 0));
        check.answers("a role that is not", 0x0b151f, () -> x.shift(0, 0, 1));
        x.setFixed(1, false);
        check.answers("not fixed any more", 0x020304, () -> x.shift(1, 0, 1));
        x.setFixed(0, true);
        check.answers("fixed now", NOT_NOW, () -> x.shift(0, 0, 1));
        x.undo();
        check.answers("not fixed again", 0x0c1620, () -> x.shift(0, 0, 1));
    }

    /** So many pairs of roles of the same colour: each is a violation in the light scheme alone. */
    private static ColorScheme pairs(int pairs) {
        StringBuilder text = new StringBuilder("scheme;");
        for (int pair = 0; pair < pairs; pair++) {
            text.append("role 50 50 50 dark 0 0 0;role 50 50 50 dark 9 9 9;");
        }
        for (int pair = 0; pair < pairs; pair++) {
            text.append("distinct ").append(2 * pair).append(' ').append(2 * pair + 1).append(" 0 9;");
        }
        return Check.loaded(text.toString());
    }

    private static void repairsAtMost() {
        check.says("but at most a number of times. Returns the number of shifts.");
        for (int pairs = 0; pairs <= 5; pairs++) {
            for (int most = 1; most <= 6; most++) {
                ColorScheme x = pairs(pairs);
                int due = Math.min(pairs, most);
                check.same(pairs + " violations, at most " + most, due, x.repair(most));
                check.same("violations then", pairs - due, x.violations());
                for (int pair = 0; pair < pairs; pair++) {
                    check.same("the first of pair " + pair, pair < due ? 0x333333 : 0x323232, x.colour(2 * pair, 0));
                    check.same("the second of pair " + pair, 0x323232, x.colour(2 * pair + 1, 0));
                }
            }
        }
        for (int more = 4; more <= 5; more++) {
            StringBuilder text = new StringBuilder("scheme;");
            for (int pair = 0; pair < more; pair++) {
                text.append("role 50 50 50;role 50 50 50;distinct ").append(2 * pair).append(' ');
                text.append(2 * pair + 1).append(" 0 9;");
            }
            ColorScheme x = Check.loaded(text.toString());
            check.same("violations in both schemes", 2 * more, x.violations());
            check.same("six at once", 6, x.repair(6));
            check.same("the others are left", 2 * more - 6, x.violations());
            check.same("the fourth pair comes next", 30, x.violation(0));
            check.same("the others", 2 * more - 6, x.repair(6));
            check.same("none is left", 0, x.violations());
        }
    }

    private static void repairsAsLongAsThereIsOne() {
        check.says("as long as there is such a violation");
        check.same("no roles", 0, new ColorScheme().repair(6));
        check.same("no rules", 0, Check.loaded(TWO).repair(6));
        check.same("no violations", 0, Check.loaded("scheme;role 0 0 0;role 1 1 1;distinct 0 1 0 9;").repair(6));
        ColorScheme none = Check.loaded("scheme;role 100 100 100;role 100 100 100;distinct 0 1 0 1396;");
        check.same("no shift mends", 0, none.repair(6));
        check.same("both stay violated", 2, none.violations());
        check.same("the colour stays", 0x646464, none.colour(0, 0));
        ColorScheme some = Check.loaded("scheme;role 100 100 100;role 100 100 100;role 0 0 0;role 0 0 0;"
            + "distinct 0 1 0 1396;distinct 2 3 0 9;");
        check.same("one of two rules", 2, some.repair(6));
        check.same("the other stays violated", 2, some.violations());
    }

    private static void repairsTheFirst() {
        check.says("Makes the best shift for the first violation for which there is one");
        String fixed = "role 5 5 5 dark 5 5 5 fixed;";
        ColorScheme x = Check.loaded("scheme;" + fixed + fixed + "role 5 5 5 dark 5 5 5;distinct 0 1 0 9;distinct 2 1 0 9;"
            + "distinct 2 0 0 18;");
        check.same("the first has none", 9999, x.bestShift(0, 0));
        check.same("at most one", 1, x.repair(1));
        check.same("in the light scheme first", 0x060606, x.colour(2, 0));
        check.same("not in the dark one", 0x050505, x.colour(2, 1));
        check.same("one more", 1, x.repair(1));
        check.same("the dark scheme of this rule, then", 0x060606, x.colour(2, 1));
        check.same("not the next rule's", 0x060606, x.colour(2, 0));
        check.same("the next rule in both", 2, x.repair(6));
        check.same("its colour", 0x070707, x.colour(2, 0));
        check.same("its dark colour", 0x070707, x.colour(2, 1));
    }

    private static void repairsTheLast() {
        check.says("the first violation for which there is one: the last of all violations");
        String kept = "scheme;role 5 5 5 dark 5 5 5;role 6 6 6 dark 6 6 6;" + "distinct 0 1 0 9;".repeat(11);
        ColorScheme x = Check.loaded(kept + "distinct 1 0 0 18;");
        check.same("two violations", 2, x.violations());
        check.same("two shifts", 2, x.repair(6));
        check.same("light", 0x070707, x.colour(1, 0));
        check.same("dark", 0x070707, x.colour(1, 1));
        x.setColour(1, 1, 0x060606);
        check.same("the last in dark", 110 + 1, x.violation(0));
        check.same("one shift", 1, x.repair(6));
        check.same("dark again", 0x070707, x.colour(1, 1));
    }

    private static void repairsAgainFromTheFirst() {
        check.says("again and again");
        // Rule 0 has no shift until rule 2's is made: then it comes before rule 3.
        String text = "scheme;role 0 0 0 dark 0 0 0;role 0 0 0 fixed;role 255 255 255 dark 150 150 150;"
            + "role 150 150 150 dark 0 0 0 fixed;role 9 9 9 dark 9 9 9;role 9 9 9 dark 0 0 0;"
            + "distinct 0 1 0 2160;distinct 0 2 0 200;distinct 2 3 0 1080;distinct 4 5 0 9;";
        ColorScheme x = Check.loaded(text);
        check.same("violations", 3, x.violations());
        check.same("none for the first", 9999, x.bestShift(0, 0));
        check.same("two of them", 2, x.repair(2));
        check.same("the third rule's", 0x1e1e1e, x.colour(2, 0));
        check.same("then the first rule's", 0xf0f0f0, x.colour(0, 0));
        check.same("not the last rule's", 0x090909, x.colour(4, 0));
        check.same("one is left", 30, x.violation(0));
        ColorScheme y = Check.loaded(text);
        check.same("all of them", 3, y.repair(3));
        check.same("none is left", 0, y.violations());
    }

    private static void repairsNoFixedRoles() {
        check.says("the colours of a fixed role are not changed by repairs");
        ColorScheme x = Check.loaded("scheme;role 5 5 5 fixed;role 5 5 5 fixed;role 5 5 5;distinct 0 1 0 9;distinct 0 2 0 9;"
            + "distinct 2 1 0 18;");
        check.same("shifts", 4, x.repair(6));
        for (int role = 0; role < 2; role++) {
            check.same("light", 0x050505, x.colour(role, 0));
            check.same("dark", 0xfafafa, x.colour(role, 1));
        }
        check.same("what is not fixed", 0x070707, x.colour(2, 0));
        x.setFixed(2, true);
        x.setColour(2, 0, 0x050505);
        check.same("all are fixed", 0, x.repair(6));
        check.same("it stays", 0x050505, x.colour(2, 0));
        x.setFixed(2, false);
        check.same("not fixed any more", 2, x.repair(6));
    }

    private static void repairsByBestShifts() {
        check.says("Makes the best shift");
        ColorScheme x = Check.loaded("scheme;role 255 255 255;role 250 250 250;role 100 100 100;role 100 100 100;"
            + "distinct 0 1 0 54;distinct 3 2 0 9;");
        check.same("by minus 1, of the second role", 1, x.repair(1));
        check.same("the first role stays", 0xffffff, x.colour(0, 0));
        check.same("the second role", 0xf9f9f9, x.colour(1, 0));
        check.same("the others", 3, x.repair(6));
        check.same("dark: by plus 1, of the second role", 0x060606, x.colour(1, 1));
        check.same("plus 1 of the first role", 0x656565, x.colour(3, 0));
        check.same("the second stays", 0x646464, x.colour(2, 0));
        check.same("plus 1 in dark", 0x9c9c9c, x.colour(3, 1));
        ColorScheme limited = Check.loaded("scheme;role 250 0 0 dark 0 0 0;role 250 0 0 dark 255 0 0 fixed;"
            + "distinct 0 1 0 100;");
        check.same("a channel is limited", 1, limited.repair(6));
        check.same("the others are not", 0xff0f0f, limited.colour(0, 0));
    }

    private static void boundsMost() {
        check.says("repair: if most is out of range");
        int[] most = {LEAST, -1, 0, 1, 2, 5, 6, 7, MOST};
        Object[] due = {NOT_ALLOWED, NOT_ALLOWED, NOT_ALLOWED, 1, 2, 4, 4, NOT_ALLOWED, NOT_ALLOWED};
        for (int i = 0; i < most.length; i++) {
            int number = most[i];
            ColorScheme x = pairs(4);
            check.answers("repair(" + number + ")", due[i], () -> x.repair(number));
            check.same("violations then", due[i] instanceof Integer ? 4 - (int) due[i] : 4, x.violations());
        }
    }

    private static void swapsAll() {
        check.says("Exchanges the colours of the light and the dark scheme of all roles.");
        for (int roles = 0; roles <= 10; roles++) {
            StringBuilder text = new StringBuilder("scheme;");
            for (int role = 0; role < roles; role++) {
                text.append("role 1 1 ").append(role).append(" dark 2 2 ").append(role);
                text.append(role % 2 == 0 ? ";" : " fixed;");
            }
            ColorScheme x = Check.loaded(text.toString());
            check.same("no violations", 0, x.swapSchemes());
            for (int role = 0; role < roles; role++) {
                check.same("light", 0x020200 + role, x.colour(role, 0));
                check.same("dark", 0x010100 + role, x.colour(role, 1));
                check.same("fixed", role % 2 == 1, x.isFixed(role));
            }
        }
    }

    private static void countsViolationsThen() {
        check.says("Returns the number of violations then.");
        // The needs stay with their scheme: white on black is enough for the light one alone.
        ColorScheme x = Check.loaded("scheme;role 0 0 0 dark 9 9 9;role 0 0 0 dark 255 255 255;text 0 1 1;text 1 0 1;"
            + "floor 1000*(1-scheme)+100;");
        check.same("before", 2, x.violations());
        check.same("then", 0, x.swapSchemes());
        check.same("back again", 2, x.swapSchemes());
        check.same("without roles", 0, new ColorScheme().swapSchemes());
    }

    /** A change by each changing method, for an object that has loaded TWO. */
    private static List<Consumer<ColorScheme>> changes() {
        List<Consumer<ColorScheme>> all = new ArrayList<>();
        all.add(x -> Check.load(x, "scheme;role 9 9 9;"));
        all.add(x -> x.setColour(0, 1, 77));
        all.add(x -> x.setFixed(1, false));
        all.add(x -> x.shift(0, 0, -3));
        all.add(x -> x.repair(1));
        all.add(x -> x.swapSchemes());
        return all;
    }

    private static void countsEachChange() {
        check.says("The changing methods are load (when it succeeds), setColour, setFixed, shift, repair and swapSchemes");
        int number = 0;
        for (Consumer<ColorScheme> change : changes()) {
            ColorScheme x = Check.loaded(TWO + "distinct 0 1 0 500;");
            String before = State.shown(x);
            change.accept(x);
            check.same("it changes something: " + number, false, before.equals(State.shown(x)));
            check.same("it is undone: " + number, 1, x.undo());
            check.same("all is as before: " + number, before, State.shown(x));
            check.same("the load before it: " + number, 0, x.undo());
            check.same("nothing before it: " + number++, -1, x.undo());
        }
    }

    private static void countsNoOtherCall() {
        check.says("The changing methods are: no others");
        ColorScheme x = Check.loaded(TWO + "distinct 0 1 0 500;");
        State.shown(x);
        x.luminance(0, 0);
        x.contrast(0, 1, 0);
        x.seen(0, 0, 1);
        x.difference(0, 1, 0, 2);
        x.nearest(5, 0);
        x.violations();
        x.violation(0);
        x.smallestMargin(0);
        x.bestShift(0, 0);
        x.shiftRole(0, 0);
        x.append(SPACES, 1, 2, 3, 4);
        x.load(20);
        x.load(0);
        check.refuses("a call that throws", (Class<?>) NOT_ALLOWED, () -> x.load(1));
        check.refuses("a call that throws", (Class<?>) NOT_ALLOWED, () -> x.repair(7));
        check.refuses("a call that throws", (Class<?>) NOT_NOW, () -> x.shift(1, 0, 1));
        check.refuses("a call that throws", (Class<?>) NO_INDEX, () -> x.setFixed(2, true));
        check.same("the load alone", 0, x.undo());
        check.same("undo itself is none", -1, x.undo());
    }

    private static void countsChangesWithoutEffect() {
        check.says("each such call that does not throw an exception is a change, also if all data stay as they were");
        String text = "scheme;role 7 7 7 dark 7 7 7;role 9 9 9 dark 9 9 9 fixed;distinct 0 1 0 9;";
        List<Consumer<ColorScheme>> all = new ArrayList<>();
        all.add(x -> Check.load(x, text));
        all.add(x -> x.setColour(0, 1, 0x070707));
        all.add(x -> x.setColour(1, 0, 0x090909));
        all.add(x -> x.setFixed(1, true));
        all.add(x -> x.setFixed(0, false));
        all.add(x -> x.shift(0, 0, 0));
        all.add(x -> x.repair(6));
        all.add(x -> x.swapSchemes());
        int number = 0;
        for (Consumer<ColorScheme> change : all) {
            ColorScheme x = Check.loaded(text);
            String before = State.shown(x);
            x.setFixed(0, true);
            x.undo();
            change.accept(x);
            check.same("all stays: " + number, before, State.shown(x));
            check.same("a change and a load: " + number, 1, x.undo());
            check.same("all stays still: " + number, before, State.shown(x));
            check.same("the load: " + number++, 0, x.undo());
        }
        ColorScheme empty = new ColorScheme();
        empty.swapSchemes();
        empty.repair(1);
        Check.load(empty, "scheme;");
        check.same("three without roles", 2, empty.undo());
        ColorScheme black = Check.loaded("scheme;role 0 0 0;");
        black.shift(0, 0, -255);
        check.same("a shift that is limited to nothing", 1, black.undo());
    }

    private static void undoesTheLatestEight() {
        check.says("The latest 8 changes that have not been undone can be undone");
        for (int changes = 0; changes <= 20; changes++) {
            ColorScheme x = new ColorScheme();
            for (int i = 1; i <= changes; i++) {
                if (i == 1) {
                    Check.load(x, "scheme;role 0 0 1;");
                } else {
                    x.setColour(0, 0, i);
                }
            }
            int left = Math.min(changes, 8);
            for (int i = 1; i <= left; i++) {
                check.same("undo " + i + " of " + changes, left - i, x.undo());
                int due = changes - i;
                check.same("the roles then", due == 0 ? 0 : 1, x.roleCount());
                check.answers("the colour then", due == 0 ? NO_INDEX : (Object) due, () -> x.colour(0, 0));
            }
            String before = State.shown(x);
            check.same("one more of " + changes, -1, x.undo());
            check.same("nothing changes then", before, State.shown(x));
        }
    }

    private static void undoesTheLatestFirst() {
        check.says("the latest one first");
        ColorScheme x = Check.loaded(TWO + "distinct 0 1 0 500;");
        List<String> before = new ArrayList<>();
        for (Consumer<ColorScheme> change : changes().subList(1, 6)) {
            before.add(State.shown(x));
            change.accept(x);
        }
        for (int i = before.size() - 1; i >= 0; i--) {
            check.same("can still be undone", i + 1, x.undo());
            check.same("as before change " + i, before.get(i), State.shown(x));
        }
    }

    private static void undoesAfterUndoing() {
        check.says("Undoes the latest change that has not been undone.");
        ColorScheme x = Check.loaded("scheme;role 0 0 1;");
        for (int i = 2; i <= 7; i++) {
            x.setColour(0, 0, i);
        }
        check.same("seven changes", 6, x.undo());
        check.same("and one more", 5, x.undo());
        x.setColour(0, 0, 50);
        check.same("the new one", 5, x.undo());
        check.same("before it", 5, x.colour(0, 0));
        for (int i = 60; i < 63; i++) {
            x.setColour(0, 0, i);
        }
        check.same("eight again", 7, x.undo());
        check.same("before the last", 61, x.colour(0, 0));
        x.setColour(0, 0, 70);
        x.setColour(0, 0, 71);
        int[] due = {70, 61, 60, 5, 4, 3, 2, 1};
        for (int i = 0; i < due.length; i++) {
            check.same("the eight latest", 7 - i, x.undo());
            check.same("colour", due[i], x.colour(0, 0));
        }
        check.same("the load is the ninth", -1, x.undo());
        check.same("the role stays", 1, x.roleCount());
    }

    private static void undoesNothing() {
        check.says("-1 if there was none to undo, and nothing changes then");
        ColorScheme x = new ColorScheme();
        for (int i = 0; i < 3; i++) {
            check.same("a new object", -1, x.undo());
        }
        Check.load(x, "scheme;?");
        check.same("after an error", -1, x.undo());
        check.same("a load", 0, Check.load(x, "scheme;role 5 5 5;"));
        check.same("undone", 0, x.undo());
        check.same("none any more", -1, x.undo());
        check.same("no role", 0, x.roleCount());
        check.same("a load again", 0, Check.load(x, "scheme;role 5 5 5;"));
        check.same("undone again", 0, x.undo());
    }

    private static void leavesBufferAndOffset() {
        check.says("The input buffer and the error offset are not affected.");
        ColorScheme x = Check.loaded("scheme;role 5 5 5;");
        Check.load(x, "scheme;role 5 5 ?");
        Check.fill(x, "scheme;role 1 2 3;  ");
        check.same("undo the load", 0, x.undo());
        check.same("the offset", 16, x.errorOffset());
        check.same("nothing to undo", -1, x.undo());
        check.same("the offset", 16, x.errorOffset());
        check.same("the length", 40, x.append(SPACES, SPACES, SPACES, SPACES, SPACES));
        check.same("the text", 0, x.load(40));
        check.same("its colour", 0x010203, x.colour(0, 0));
        ColorScheme y = new ColorScheme();
        Check.load(y, "?");
        Check.load(y, "scheme;");
        y.undo();
        check.same("no offset comes back", -1, y.errorOffset());
        check.same("no text comes back", 20, y.append(SPACES, SPACES, SPACES, SPACES, SPACES));
    }

    private static void undoesWholeLoads() {
        check.says("Undoes the latest change: a load");
        ColorScheme x = Check.loaded("scheme;role 1 1 1 fixed;role 2 2 2;role 3 3 3;text 2 1 3;"
            + "distinct 0 1 2 9;floor 200*size+scheme;");
        String first = State.shown(x);
        Check.load(x, "scheme;" + "role 9 9 9 fixed;".repeat(10) + "distinct 9 8 1 77;".repeat(12) + "floor 2100;");
        String second = State.shown(x);
        Check.load(x, "scheme;");
        check.same("the full one", 2, x.undo());
        check.same("all of it", second, State.shown(x));
        check.same("the first one", 1, x.undo());
        check.same("all of it", first, State.shown(x));
        check.same("its floor", 601, x.need(0, 1));
        check.same("none", 0, x.undo());
        check.same("nothing at all", State.shown(new ColorScheme()), State.shown(x));
    }

    private static void undoesRepairsAtOnce() {
        check.says("Undoes the latest change: a repair with all its shifts");
        ColorScheme x = pairs(5);
        String before = State.shown(x);
        check.same("five shifts", 5, x.repair(6));
        check.same("one change and the load", 1, x.undo());
        check.same("all of them", before, State.shown(x));
        check.same("no shift", 5, x.repair(5));
        check.same("no shift", 0, x.repair(5));
        check.same("two changes and the load", 2, x.undo());
        check.same("five shifts still", 0, x.violations());
        check.same("one change and the load", 1, x.undo());
        check.same("all of them", before, State.shown(x));
    }

    private static void sumsFromZero() {
        check.says("It starts at 0");
        check.same("no roles", 0L, new ColorScheme().checksum());
        check.same("no statements", 0L, Check.loaded("scheme;floor 900;").checksum());
        check.same("a black role", 0L, Check.loaded("scheme;role 0 0 0 dark 0 0 0;").checksum());
        check.same("it is fixed", 1L, Check.loaded("scheme;role 0 0 0 dark 0 0 0 fixed;").checksum());
        check.same("its dark colour", 31L, Check.loaded("scheme;role 0 0 0 dark 0 0 1;").checksum());
        check.same("its light colour", 961L, Check.loaded("scheme;role 0 0 1 dark 0 0 0;").checksum());
    }

    private static void sumsInOrder() {
        check.says("each number n in the following order replaces it by 31 * checksum + n");
        String text = "scheme;role 0 0 2 dark 0 0 3 fixed;role 0 0 5 dark 0 0 4;";
        long roles = ((((2L * 31 + 3) * 31 + 1) * 31 + 5) * 31 + 4) * 31;
        check.same("roles", roles, Check.loaded(text).checksum());
        long rules = (roles * 31 + 6) * 31 + 2;
        check.same("a rule", rules, Check.loaded(text + "distinct 0 1 0 1;").checksum());
        ColorScheme two = Check.loaded(text + "distinct 0 1 0 1;text 0 1 1;");
        check.same("two rules", (rules * 31 + 100) * 31 + 100, two.checksum());
    }

    private static void wrapsAround() {
        check.says("wrapping around on overflow of a long");
        ColorScheme x = Check.loaded("scheme;role 0 0 0;role 0 0 0;role 0 0 0;");
        int[] colours = {10814241, 102, 172, 18, 314, 3};
        for (int i = 0; i < colours.length; i++) {
            x.setColour(i / 2, i % 2, colours[i]);
        }
        check.same("nearly the greatest", Long.MAX_VALUE - 7, x.checksum());
        x.setFixed(2, true);
        check.same("one more", Long.MAX_VALUE - 6, x.checksum());
        x.setColour(2, 1, 4);
        check.same("beyond it", Long.MIN_VALUE + 24, x.checksum());
        x.setFixed(1, true);
        check.same("farther beyond it", Long.MIN_VALUE + 24 + 31 * 31 * 31, x.checksum());
        long wrapped = 0;
        for (int role = 0; role < 10; role++) {
            wrapped = ((wrapped * 31 + 16777215) * 31 + 16777215) * 31 + 1;
        }
        for (int rule = 0; rule < 12; rule++) {
            wrapped = (wrapped * 31 + 100) * 31 + 100;
        }
        String full = "scheme;" + "role 255 255 255 dark 255 255 255 fixed;".repeat(10) + "text 0 1 1;".repeat(12);
        check.same("many times", wrapped, Check.loaded(full).checksum());
    }

    private static void holdsFor512Calls() {
        check.says("An object is used for at most 512 calls after it has been made");
        ColorScheme x = Check.loaded("scheme;role 0 0 0;");
        // The load took two calls: this is the 3rd to the 511th.
        for (int call = 3; call <= 511; call++) {
            check.same("colour", call == 3 ? 0 : call - 1, x.setColour(0, 0, call));
        }
        check.same("the 512th call", 7, x.undo());
        ColorScheme y = new ColorScheme();
        for (int call = 1; call < 512; call += 2) {
            check.same("a length", 20, y.append(0x73636865, 0x6d653b72, 0x6f6c6530, 0x20302030, 0x3b202020));
            check.same("its load", 0, y.load(20));
        }
        ColorScheme z = new ColorScheme();
        for (int call = 1; call <= 512; call++) {
            check.same("a length or none", call <= 35 ? 20 * call : -1, z.append(call, call, call, call, call));
        }
    }
}
