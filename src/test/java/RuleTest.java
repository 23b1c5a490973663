import java.util.NoSuchElementException;
import java.util.function.Supplier;

/** Promises 14 to 20: need, value, violations, violation, smallestMargin, bestShift, shiftRole. */
public final class RuleTest {
    private static final Check check = new Check();
    private static final String TWO = "scheme;role 0 0 0;role 255 255 255;";

    public static void main(String[] args) {
        needs();
        floors();
        values();
        orderOfViolations();
        margins();
        smallestAmountFirst();
        positiveBeforeNegative();
        firstRoleBeforeSecond();
        fixedRolesStay();
        otherRulesCount();
        noShift();
        wrongIndexes();
        check.end("RuleTest");
    }

    private static void needs() {
        ColorScheme x = Check.loaded(TWO + "text 0 1 1;distinct 0 1 3 2295;text 1 0 9;distinct 0 1 0 1;");
        check.same("a text's need without floor", 450, x.need(0, 0));
        check.same("in the dark scheme", 450, x.need(2, 1));
        check.same("a distinct rule's need", 2295, x.need(1, 0));
        check.same("in the dark scheme", 2295, x.need(1, 1));
        check.same("the smallest need", 1, x.need(3, 1));
        ColorScheme y = Check.loaded(TWO + "text 0 1 2;floor 200+100*size-scheme;text 0 1 3;distinct 0 1 0 7;");
        check.same("floor after the text", 400, y.need(0, 0));
        check.same("floor after the text, dark", 399, y.need(0, 1));
        check.same("floor before the text", 500, y.need(1, 0));
        check.same("floor before the text, dark", 499, y.need(1, 1));
        check.same("floor does not touch a distinct rule", 7, y.need(2, 0));
        y.swapSchemes();
        check.same("swapping does not touch needs", 400, y.need(0, 0));
    }

    private static void floor(String sum, int light, int dark) {
        ColorScheme x = Check.loaded(TWO + "text 0 1 5;floor " + sum + ";");
        check.same("floor " + sum, light, x.need(0, 0));
        check.same("floor " + sum + " in dark", dark, x.need(0, 1));
    }

    private static void floors() {
        floor("99", 100, 100);
        floor("100", 100, 100);
        floor("101", 101, 101);
        floor("2100", 2100, 2100);
        floor("2101", 2100, 2100);
        floor("0-5000", 100, 100);
        floor("size*100", 500, 500);
        floor("1000+scheme", 1000, 1001);
        floor("1000-300-200", 500, 500);
        floor("1000/10*5", 500, 500);
        floor("1000/3*3", 999, 999);
        floor("1000-(300-200)", 900, 900);
        floor("100+2*200", 500, 500);
        floor("(100+2)*size", 510, 510);
        floor("500+(0-7)/2", 497, 497);
        floor("500+7/(0-2)", 497, 497);
        floor("500-(0-7)/(0-2)", 497, 497);
        floor("300+size/scheme", 300, 305);
        floor("300+size/0", 300, 300);
        floor("300+size/(size-5)*100", 300, 300);
        floor("9999*9999/1000", 1000, 1000);
        floor("1500+(0-9999)*9999/1000", 500, 500);
        floor("9999*100+9999-9999*100+400", 500, 500);
        floor("(0-9999)*100-9999+9999*100+600", 500, 500);
        floor("9999*100+9900-9999*100+400", 500, 500);
        floor("9999*100+99-9999*100+400", 499, 499);
        floor("((((size+1)*2)+3)*4)*10", 600, 600);
        floor("(scheme+1)*(scheme+1)*(200)", 200, 800);
    }

    private static void values() {
        ColorScheme x = Check.loaded("scheme;role 200 30 90;role 17 34 51;text 0 1 1;distinct 0 1 0 1;distinct 1 0 1 1;"
            + "distinct 0 1 2 1;distinct 0 1 3 1;distinct 0 1 4 1;");
        int[] due = {300, 643, 218, 437, 737, 513};
        for (int rule = 0; rule < due.length; rule++) {
            check.same("value of rule " + rule, due[rule], x.value(rule, 0));
        }
        check.same("value in the dark scheme", x.contrast(0, 1, 1), x.value(0, 1));
        check.same("difference in the dark scheme", x.difference(0, 1, 1, 3), x.value(4, 1));
        ColorScheme same = Check.loaded("scheme;role 9 9 9;role 9 9 9;text 0 1 1;distinct 0 1 2 1;");
        check.same("smallest contrast", 100, same.value(0, 0));
        check.same("smallest difference", 0, same.value(1, 0));
    }

    private static void orderOfViolations() {
        ColorScheme x = Check.loaded("scheme;role 9 9 9;role 9 9 9;role 0 0 0 dark 9 9 9;" + "distinct 0 1 0 1;"
            + "distinct 0 2 0 1;".repeat(9) + "text 0 2 1;" + "distinct 1 0 4 1;");
        // In the dark scheme role 2 is 9 9 9 and the others are 246 246 246.
        check.same("violations", 5, x.violations());
        int[] due = {0, 1, 100, 110, 111};
        for (int i = 0; i < due.length; i++) {
            check.same("violation " + i, due[i], x.violation(i));
        }
        ColorScheme y = Check.loaded("scheme;role 9 9 9;role 9 9 9 dark 0 0 0;distinct 0 1 0 1;distinct 1 0 0 2295;");
        check.same("light before dark", 3, y.violations());
        check.same("first", 0, y.violation(0));
        check.same("second", 10, y.violation(1));
        check.same("third", 11, y.violation(2));
        for (int wrong : new int[] {-1, 3, Integer.MAX_VALUE, Integer.MIN_VALUE}) {
            check.refuses("violation " + wrong, NoSuchElementException.class, () -> y.violation(wrong));
        }
        ColorScheme edge = Check.loaded("scheme;role 0 0 0;role 1 1 1;distinct 0 1 0 9;distinct 0 1 0 10;");
        check.same("value as need is kept", 2, edge.violations());
        check.same("one below is not", 10, edge.violation(0));
        check.refuses("no violation", NoSuchElementException.class, () -> new ColorScheme().violation(0));
    }

    private static void margins() {
        check.same("no rules", 9999, Check.loaded(TWO).smallestMargin(1));
        ColorScheme x = Check.loaded("scheme;role 0 0 0;role 255 255 255 dark 1 1 1;text 0 1 1;distinct 0 1 0 2000;");
        check.same("light", 295, x.smallestMargin(0));
        check.same("dark", -2000 + 9 * 254, x.smallestMargin(1));
        ColorScheme negative = Check.loaded("scheme;role 0 0 0;role 1 1 1;distinct 0 1 0 2295;text 0 1 1;");
        check.same("negative", 9 - 2295, negative.smallestMargin(0));
        for (int wrong : new int[] {-1, 2}) {
            noSuch("margin in scheme " + wrong, () -> x.smallestMargin(wrong));
            noSuch("margin without rules in scheme " + wrong, () -> new ColorScheme().smallestMargin(wrong));
        }
    }

    private static void best(String what, String text, int rule, int amount, int role) {
        ColorScheme x = Check.loaded(text);
        long before = x.checksum();
        check.same(what + ": amount", amount, x.bestShift(rule, 0));
        check.same(what + ": role", role, x.shiftRole(rule, 0));
        check.same(what + ": nothing changes", before, x.checksum());
        check.same(what + ": no change", 0, x.undo());
    }

    private static String greys(int... greys) {
        StringBuilder text = new StringBuilder("scheme;");
        for (int grey : greys) {
            text.append("role ").append(grey).append(' ').append(grey).append(' ').append(grey).append(';');
        }
        return text.toString();
    }

    private static void smallestAmountFirst() {
        String grey = "scheme;role 255 255 255 fixed;role 128 128 128;text 1 0 1;";
        best("darker by 19", grey, 0, -19, 1);
        best("kept", TWO + "text 0 1 1;", 0, 0, -1);
        best("the whole way", greys(0, 0) + "distinct 0 1 0 2295;", 0, 255, 0);
        best("the whole way back", "scheme;role 255 255 255;role 255 255 255;distinct 0 1 0 2295;", 0, -255, 0);
        // The channels of the first role stop at 255 one after the other.
        best("limited channels", "scheme;role 250 0 0;role 250 0 0 fixed;distinct 0 1 0 100;", 0, 15, 0);
        best("a sight", "scheme;role 100 100 100;role 100 100 100;distinct 0 1 4 90;", 0, 10, 0);
    }

    private static void positiveBeforeNegative() {
        best("both signs mend", greys(100, 100) + "distinct 0 1 0 9;", 0, 1, 0);
        best("only the second role with plus", greys(100, 105) + "distinct 0 1 0 54;", 0, 1, 1);
        best("only minus", greys(255, 255) + "distinct 0 1 0 9;", 0, -1, 0);
        best("the second role with minus", greys(255, 250) + "distinct 0 1 0 54;", 0, -1, 1);
    }

    private static void firstRoleBeforeSecond() {
        best("the first of the rule, not of the roles", greys(100, 100) + "distinct 1 0 0 9;", 0, 1, 1);
        best("the first", greys(7, 100, 100) + "distinct 2 1 0 9;", 0, 1, 2);
    }

    private static void fixedRolesStay() {
        String one = "scheme;role 100 100 100";
        String other = ";role 100 100 100";
        best("the first is fixed", one + " fixed" + other + ";distinct 0 1 0 9;", 0, 1, 1);
        best("the second is fixed", one + other + " fixed;distinct 1 0 0 9;", 0, 1, 0);
        best("both are fixed", one + " fixed" + other + " fixed;distinct 0 1 0 9;", 0, 9999, -1);
    }

    private static void otherRulesCount() {
        String head = "scheme;role 100 100 100;role 100 100 100 fixed;role 101 101 101 fixed;role 99 99 99 fixed;";
        best("plus breaks another rule", head + "distinct 0 1 0 9;distinct 0 2 0 9;", 0, -1, 0);
        best("both signs break another rule", head + "distinct 0 1 0 9;distinct 0 2 0 9;distinct 0 3 0 9;", 0, 2, 0);
        best("the break must not outweigh", head + "distinct 0 1 0 9;distinct 0 2 0 2;distinct 0 2 0 3;", 0, -1, 0);
        // With +1 rules 0 and 2 come to be kept, and rule 1 breaks: two violations become one.
        best("two mended for one broken", head + "distinct 0 1 0 9;distinct 0 2 0 9;distinct 0 3 0 18;", 0, 1, 0);
        best("a rule of other roles stays broken", head + "distinct 0 1 0 9;distinct 2 3 0 2000;", 0, 1, 0);
        ColorScheme x = Check.loaded("scheme;role 100 100 100 dark 0 0 0;role 100 100 100 dark 0 0 0 fixed;"
            + "distinct 0 1 0 9;");
        check.same("the dark scheme has its own", 1, x.bestShift(0, 1));
        x.setColour(0, 1, 0xffffff);
        check.same("kept in the dark scheme", 0, x.bestShift(0, 1));
        check.same("violated in the light one", 1, x.bestShift(0, 0));
    }

    private static void noShift() {
        best("too far for one role", greys(100, 100) + "distinct 0 1 0 2295;", 0, 9999, -1);
        best("contrast too high", greys(128, 128) + "floor 2100;text 0 1 1;", 0, 9999, -1);
        best("each shift breaks as much as it mends", "scheme;role 100 100 100;role 100 100 100 fixed;"
            + "role 255 255 255 fixed;role 0 0 0 fixed;distinct 0 1 0 9;distinct 0 2 0 1395;distinct 0 3 0 900;",
            0, 9999, -1);
    }

    private static void noSuch(String what, Supplier<?> call) {
        check.refuses(what, IndexOutOfBoundsException.class, call);
    }

    private static void wrongIndexes() {
        ColorScheme x = Check.loaded(TWO + "text 0 1 1;distinct 0 1 0 5;");
        for (int wrong : new int[] {-1, 2, 11, 12, Integer.MAX_VALUE, Integer.MIN_VALUE}) {
            noSuch("need of rule " + wrong, () -> x.need(wrong, 0));
            noSuch("value of rule " + wrong, () -> x.value(wrong, 0));
            noSuch("bestShift of rule " + wrong, () -> x.bestShift(wrong, 0));
            noSuch("shiftRole of rule " + wrong, () -> x.shiftRole(wrong, 0));
        }
        for (int wrong : new int[] {-1, 2, Integer.MAX_VALUE, Integer.MIN_VALUE}) {
            noSuch("need in scheme " + wrong, () -> x.need(0, wrong));
            noSuch("value in scheme " + wrong, () -> x.value(0, wrong));
            noSuch("bestShift in scheme " + wrong, () -> x.bestShift(0, wrong));
            noSuch("shiftRole in scheme " + wrong, () -> x.shiftRole(0, wrong));
        }
    }
}
