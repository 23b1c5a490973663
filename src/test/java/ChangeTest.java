import java.util.function.Supplier;

/** Promises 21 to 27: setColour, setFixed, shift, repair, swapSchemes, undo, checksum. */
public final class ChangeTest {
    private static final Check check = new Check();
    private static final String TWO = "scheme;role 10 20 30;role 1 2 3 dark 4 5 6 fixed;";

    public static void main(String[] args) {
        setColours();
        setFixeds();
        shifts();
        repairs();
        repairOrder();
        repairAgain();
        swaps();
        undoesEach();
        undoesEight();
        undoesAndGoesOn();
        undoesLoads();
        checksums();
        fullScheme();
        check.end("ChangeTest");
    }

    private static void noSuch(String what, Supplier<?> call) {
        check.refuses(what, IndexOutOfBoundsException.class, call);
    }

    private static void notAllowed(String what, Supplier<?> call) {
        check.refuses(what, IllegalArgumentException.class, call);
    }

    /** Only the load can be undone. */
    private static void unchanged(String what, ColorScheme x, long checksum) {
        check.same(what + " changes nothing", checksum, x.checksum());
        check.same(what + " is no change", 0, x.undo());
    }

    private static void setColours() {
        ColorScheme x = Check.loaded(TWO);
        check.same("previous colour", 660510, x.setColour(0, 0, 16777215));
        check.same("the greatest colour", 16777215, x.colour(0, 0));
        check.same("the other scheme stays", 16777215 - 660510, x.colour(0, 1));
        check.same("a fixed role", 263430, x.setColour(1, 1, 0));
        check.same("its colour then", 0, x.colour(1, 1));
        check.same("its other colour", 66051, x.colour(1, 0));
        check.same("previous again", 0, x.setColour(1, 1, 7));
        ColorScheme y = Check.loaded(TWO);
        long before = y.checksum();
        notAllowed("colour -1", () -> y.setColour(0, 0, -1));
        notAllowed("colour 16777216", () -> y.setColour(0, 0, 16777216));
        noSuch("role 2", () -> y.setColour(2, 0, 5));
        noSuch("role -1 with colour -1", () -> y.setColour(-1, 0, -1));
        noSuch("scheme 2", () -> y.setColour(0, 2, 5));
        noSuch("scheme -1 with colour 16777216", () -> y.setColour(0, -1, 16777216));
        unchanged("a refused setColour", y, before);
    }

    private static void setFixeds() {
        ColorScheme x = Check.loaded(TWO);
        check.same("was not fixed", false, x.setFixed(0, true));
        check.same("is fixed", true, x.isFixed(0));
        check.same("was fixed", true, x.setFixed(0, true));
        check.same("was fixed still", true, x.setFixed(0, false));
        check.same("is not fixed", false, x.isFixed(0));
        check.same("the other one", true, x.isFixed(1));
        check.same("load and three changes", 3, x.undo());
        ColorScheme y = Check.loaded(TWO);
        long before = y.checksum();
        noSuch("role 2", () -> y.setFixed(2, true));
        noSuch("role -1", () -> y.setFixed(-1, true));
        unchanged("a refused setFixed", y, before);
    }

    private static void shifts() {
        ColorScheme x = Check.loaded(TWO);
        check.same("shift by 5", 0x0f1923, x.shift(0, 0, 5));
        check.same("the colour then", 0x0f1923, x.colour(0, 0));
        check.same("the other scheme", 16777215 - 660510, x.colour(0, 1));
        check.same("shift by -20", 0x00050f, x.shift(0, 0, -20));
        check.same("no way back", 0x141923, x.shift(0, 0, 20));
        check.same("shift by 255", 0xffffff, x.shift(0, 0, 255));
        check.same("shift by -255", 0, x.shift(0, 0, -255));
        check.same("shift by 0", 0, x.shift(0, 0, 0));
        check.same("shift in dark", 0xfff5eb, x.shift(0, 1, 10));
        ColorScheme y = Check.loaded(TWO);
        long before = y.checksum();
        check.refuses("a fixed role", IllegalStateException.class, () -> y.shift(1, 0, 0));
        notAllowed("amount 256", () -> y.shift(0, 0, 256));
        notAllowed("amount -256", () -> y.shift(0, 0, -256));
        notAllowed("amount 256 of a fixed role", () -> y.shift(1, 0, 256));
        notAllowed("the least amount", () -> y.shift(1, 0, Integer.MIN_VALUE));
        noSuch("role 2", () -> y.shift(2, 0, 1));
        noSuch("role -1 by 256", () -> y.shift(-1, 0, 256));
        noSuch("scheme 2 of a fixed role", () -> y.shift(1, 2, 1));
        noSuch("scheme -1 by -256", () -> y.shift(1, -1, -256));
        unchanged("a refused shift", y, before);
    }

    private static void repairs() {
        String five = "scheme;role 100 100 100;role 100 100 100;role 50 50 50;role 50 50 50;role 200 200 200;"
            + "role 200 200 200;role 7 7 7;role 7 7 7;distinct 0 1 0 9;distinct 2 3 0 9;distinct 4 5 0 9;distinct 6 7 0 9;";
        ColorScheme x = Check.loaded(five);
        check.same("violations before", 8, x.violations());
        check.same("repair at most 1", 1, x.repair(1));
        check.same("it is the first rule's", 0x656565, x.colour(0, 0));
        check.same("in the light scheme", 0x9b9b9b, x.colour(0, 1));
        check.same("violations then", 7, x.violations());
        check.same("repair at most 6", 6, x.repair(6));
        check.same("violations then", 1, x.violations());
        check.same("the last one", 31, x.violation(0));
        check.same("as many as there are", 1, x.repair(6));
        check.same("no more to do", 0, x.repair(6));
        check.same("undo the one without a shift", 4, x.undo());
        check.same("violations before it", 0, x.violations());
        check.same("undo the single one", 3, x.undo());
        check.same("violations before it", 1, x.violations());
        check.same("undo the six at once", 2, x.undo());
        check.same("violations before them", 7, x.violations());
        check.same("undo the first", 1, x.undo());
        check.same("violations at first", 8, x.violations());
        long before = x.checksum();
        for (int wrong : new int[] {0, 7, -1, Integer.MAX_VALUE, Integer.MIN_VALUE}) {
            notAllowed("repair(" + wrong + ")", () -> x.repair(wrong));
        }
        unchanged("a refused repair", x, before);
        check.same("repair without roles", 0, new ColorScheme().repair(3));
    }

    private static void repairOrder() {
        // No shift mends rule 0, for its roles are fixed; rule 1 is violated in the dark scheme alone.
        ColorScheme x = Check.loaded("scheme;role 5 5 5 dark 5 5 5 fixed;role 5 5 5 dark 5 5 5 fixed;"
            + "role 9 9 9 dark 5 5 5;distinct 0 1 0 9;distinct 0 2 0 9;");
        check.same("three violations", 3, x.violations());
        check.same("repair passes what no shift mends", 1, x.repair(6));
        check.same("dark, by one", 0x060606, x.colour(2, 1));
        check.same("two are left", 2, x.violations());
        check.same("fixed roles stay", 0x050505, x.colour(0, 1));
        x.setFixed(2, true);
        x.setColour(2, 0, 0x050505);
        check.same("nothing to mend", 0, x.repair(2));
    }

    private static void repairAgain() {
        // At first each shift of role 0 that rule 0 wants breaks rule 1; rule 2's shift of role 2 makes way for it.
        ColorScheme x = Check.loaded("scheme;role 0 0 0 dark 0 0 0;role 0 0 0 fixed;role 255 255 255 dark 150 150 150;"
            + "role 150 150 150 dark 0 0 0 fixed;distinct 0 1 0 2160;distinct 0 2 0 200;distinct 2 3 0 1080;");
        check.same("violations", 2, x.violations());
        check.same("none for the first", 9999, x.bestShift(0, 0));
        check.same("one for the second", -225, x.bestShift(2, 0));
        check.same("both are mended", 2, x.repair(6));
        check.same("none is violated", 0, x.violations());
        check.same("the first rule's role", 0xf0f0f0, x.colour(0, 0));
        check.same("the third rule's role", 0x1e1e1e, x.colour(2, 0));
        x.undo();
        check.same("only one", 1, x.repair(1));
        check.same("the first rule's role stays", 0, x.colour(0, 0));
        check.same("it has a best shift then", 240, x.bestShift(0, 0));
    }

    private static void swaps() {
        ColorScheme x = Check.loaded("scheme;role 0 0 0 dark 9 9 9;role 255 255 255 dark 9 9 9 fixed;text 0 1 1;");
        check.same("violation before", 1, x.violation(0));
        check.same("violations then", 1, x.swapSchemes());
        check.same("violation then", 0, x.violation(0));
        check.same("light", 0x090909, x.colour(0, 0));
        check.same("dark", 0, x.colour(0, 1));
        check.same("light of the fixed role", 0x090909, x.colour(1, 0));
        check.same("dark of the fixed role", 0xffffff, x.colour(1, 1));
        check.same("still fixed", true, x.isFixed(1));
        check.same("not fixed", false, x.isFixed(0));
        x.swapSchemes();
        check.same("back again", 1, x.violation(0));
        check.same("no roles", 0, new ColorScheme().swapSchemes());
        ColorScheme y = Check.loaded("scheme;role 0 0 0 dark 9 9 9;role 0 0 0 dark 255 255 255;text 0 1 1;"
            + "floor 1200-1000*scheme;");
        check.same("kept in dark, not in light", 1, y.violations());
        check.same("needs stay with their scheme", 1, y.swapSchemes());
        check.same("the dark one now", 1, y.violation(0));
    }

    private static void undoesEach() {
        ColorScheme x = Check.loaded("scheme;role 10 20 30;role 10 20 31;distinct 0 1 0 9;");
        long loaded = x.checksum();
        x.setColour(0, 0, 5);
        long coloured = x.checksum();
        x.setFixed(0, true);
        long fixed = x.checksum();
        x.shift(1, 1, -30);
        long shifted = x.checksum();
        x.swapSchemes();
        long swapped = x.checksum();
        x.repair(2);
        check.same("undo repair", 5, x.undo());
        check.same("then", swapped, x.checksum());
        check.same("undo swapSchemes", 4, x.undo());
        check.same("then", shifted, x.checksum());
        check.same("undo shift", 3, x.undo());
        check.same("then", fixed, x.checksum());
        check.same("undo setFixed", 2, x.undo());
        check.same("then", coloured, x.checksum());
        check.same("undo setColour", 1, x.undo());
        check.same("then", loaded, x.checksum());
        check.same("undo load", 0, x.undo());
        check.same("then", 0, x.roleCount());
        check.same("no rules then", 0, x.ruleCount());
        check.same("nothing to undo", -1, x.undo());
        check.same("nor again", -1, x.undo());
        check.same("calls that only ask are no changes", 0, x.violations());
    }

    private static void undoesEight() {
        ColorScheme x = Check.loaded(TWO);
        for (int i = 1; i <= 10; i++) {
            x.setColour(0, 0, i);
        }
        for (int i = 7; i >= 0; i--) {
            check.same("undo", i, x.undo());
            check.same("colour then", i + 2, x.colour(0, 0));
        }
        check.same("the ninth", -1, x.undo());
        check.same("colour of the ninth", 2, x.colour(0, 0));
        check.same("role of the ninth", 2, x.roleCount());
    }

    private static void undoesAndGoesOn() {
        ColorScheme x = Check.loaded(TWO);
        for (int i = 1; i <= 12; i++) {
            x.setColour(0, 0, i);
        }
        x.undo();
        x.undo();
        check.same("undo three", 5, x.undo());
        x.setColour(0, 0, 50);
        x.setColour(0, 0, 51);
        check.same("undo one of two", 6, x.undo());
        check.same("colour", 50, x.colour(0, 0));
        check.same("undo the other", 5, x.undo());
        check.same("colour before both", 9, x.colour(0, 0));
        for (int i = 4; i >= 0; i--) {
            check.same("undo", i, x.undo());
            check.same("colour", i + 4, x.colour(0, 0));
        }
        check.same("no more", -1, x.undo());
        check.same("a change without effect", 4, x.setColour(0, 0, 4));
        check.same("it is undone", 0, x.undo());
    }

    private static void undoesLoads() {
        ColorScheme x = Check.loaded("scheme;role 1 1 1 fixed;role 2 2 2;role 3 3 3;text 2 1 3;distinct 0 1 2 9;floor 200*size;");
        long first = x.checksum();
        Check.load(x, "scheme;role 7 8 9;role 9 8 7;distinct 1 0 4 77;");
        x.setFixed(0, true);
        check.same("a load with an error", -2, Check.load(x, "scheme;role 1 1 1;?"));
        x.append(0x73636865, 0x6d653b20, 0, 0, 0);
        check.same("undo setFixed", 2, x.undo());
        check.same("undo load", 1, x.undo());
        check.same("the first text's data", first, x.checksum());
        check.same("roles", 3, x.roleCount());
        check.same("rules", 2, x.ruleCount());
        check.same("fixed", true, x.isFixed(0));
        check.same("its floor", 600, x.need(0, 1));
        check.same("its distinct rule", 9, x.need(1, 0));
        check.same("its text's roles", x.contrast(2, 1, 0), x.value(0, 0));
        check.same("its sight", x.difference(0, 1, 0, 2), x.value(1, 0));
        check.same("the error offset stays", 18, x.errorOffset());
        check.same("the buffer stays", 0, x.load(8));
        check.same("the load is a change again", 1, x.undo());
    }

    private static void checksums() {
        ColorScheme x = Check.loaded(TWO);
        long due = 660510;
        due = 31 * due + 16777215 - 660510;
        due = 31 * due;
        due = 31 * due + 66051;
        due = 31 * due + 263430;
        due = 31 * due + 1;
        check.same("roles alone", due, x.checksum());
        ColorScheme y = Check.loaded(TWO + "text 0 1 1;distinct 0 1 3 9;");
        due = 31 * due + y.contrast(0, 1, 0);
        due = 31 * due + y.contrast(0, 1, 1);
        due = 31 * due + y.difference(0, 1, 0, 3);
        due = 31 * due + y.difference(0, 1, 1, 3);
        check.same("with rules", due, y.checksum());
        StringBuilder text = new StringBuilder("scheme;");
        long wrapped = 0;
        for (int role = 0; role < 10; role++) {
            text.append("role 255 255 255 dark 255 255 255 fixed;");
            wrapped = ((wrapped * 31 + 16777215) * 31 + 16777215) * 31 + 1;
        }
        check.same("wrapping around", wrapped, Check.loaded(text.toString()).checksum());
    }

    /** Ten roles and twelve rules: each method comes to the end of its rows. */
    private static void fullScheme() {
        ColorScheme x = Check.loaded("scheme;" + "role 40 40 40;".repeat(10) + "distinct 8 9 0 9;".repeat(12));
        check.same("violations", 24, x.violations());
        check.same("the last violation", 111, x.violation(23));
        check.refuses("one more", java.util.NoSuchElementException.class, () -> x.violation(24));
        check.same("the last role", 0x282828, x.colour(9, 0));
        check.same("all roles alike", 0, x.nearest(0, 1));
        check.same("margin", -9, x.smallestMargin(1));
        check.same("best shift of the last rule", 1, x.bestShift(11, 1));
        check.same("its role", 8, x.shiftRole(11, 1));
        check.same("swapSchemes", 24, x.swapSchemes());
        check.same("the last role then", 0xd7d7d7, x.colour(9, 0));
        check.same("one shift a scheme mends all", 2, x.repair(6));
        check.same("nothing to repair", 0, x.repair(6));
        check.refuses("no violation", java.util.NoSuchElementException.class, () -> x.violation(0));
        check.same("the last role shifts", 0xd8d8d8, x.shift(9, 0, 1));
        check.same("undo", 4, x.undo());
        check.same("the last role is back", 0xd7d7d7, x.colour(9, 0));
    }
}
