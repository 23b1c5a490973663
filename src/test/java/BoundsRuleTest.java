import java.util.NoSuchElementException;

/** Each sentence of the rules, of the shifts and of promises 14 to 20 that names a boundary case: a method for each. */
public final class BoundsRuleTest {
    private static final Check check = new Check();
    private static final Object NO_INDEX = IndexOutOfBoundsException.class;
    private static final Object NONE = NoSuchElementException.class;
    private static final int MOST = Integer.MAX_VALUE;
    private static final int LEAST = Integer.MIN_VALUE;
    private static final String TWO = "scheme;role 0 0 0;role 255 255 255;";

    public static void main(String[] args) {
        needs();
        keeping();
        shifts();
        asking();
        check.end("BoundsRuleTest");
    }

    private static void needs() {
        limitsNeeds();
        keepsDistinctNeeds();
        knowsSizeAndScheme();
        dividesByZero();
        truncatesQuotients();
        goesFromTheLeft();
        limitsSums();
        limitsDifferences();
        limitsProducts();
        limitsEachResult();
        needsWithoutFloor();
    }

    private static void keeping() {
        valuesTexts();
        valuesDistincts();
        valuesTwelveRules();
        keepsAtTheNeed();
        keepsInEachScheme();
        countsViolations();
        ordersViolations();
        endsViolations();
        findsMargins();
        findsNoMargin();
    }

    private static void shifts() {
        shiftsForEachRule();
        limitsShiftedChannels();
        mendsWithRolesOfTheRule();
        mendsWithRolesNotFixed();
        mendsIfTheRuleIsKept();
        mendsIfFewerAreViolated();
        looksAtThisSchemeAlone();
        takesTheSmallestAmount();
        takesPlusBeforeMinus();
        takesTheFirstRole();
        shiftsUpTo255();
        findsNoShift();
        findsNothingToMend();
    }

    private static void asking() {
        asksRules();
        asksSchemes();
    }

    private static void floor(String sum, int light, int dark) {
        ColorScheme x = Check.loaded(TWO + "text 0 1 5;floor " + sum + ";");
        check.same("floor " + sum, light, x.need(0, 0));
        check.same("floor " + sum + " in dark", dark, x.need(0, 1));
    }

    private static void floor(String sum, int both) {
        floor(sum, both, both);
    }

    private static void limitsNeeds() {
        check.says("Its need in a scheme is the value of the floor expression, limited to the range 100 to 2100.");
        floor("0", 100);
        floor("98", 100);
        floor("99", 100);
        floor("100", 100);
        floor("101", 101);
        floor("2099", 2099);
        floor("2100", 2100);
        floor("2101", 2100);
        floor("9999", 2100);
        floor("9999*9999", 2100);
        floor("0-1", 100);
        floor("0-9999*9999", 100);
        floor("99+scheme", 100, 100);
        floor("99+scheme*2", 100, 101);
        floor("2099+2*scheme", 2099, 2100);
    }

    private static void keepsDistinctNeeds() {
        check.says("A distinct rule has a sight and a need (1 to 2295): no floor limits it.");
        for (String floor : new String[] {"", "floor 100;", "floor 2100;", "floor 0;"}) {
            ColorScheme x = Check.loaded(TWO + "distinct 0 1 0 1;distinct 0 1 0 99;" + floor
                + "distinct 0 1 0 2101;distinct 0 1 0 2295;");
            int[] due = {1, 99, 2101, 2295};
            for (int rule = 0; rule < due.length; rule++) {
                check.same("light", due[rule], x.need(rule, 0));
                check.same("dark", due[rule], x.need(rule, 1));
            }
        }
    }

    private static void knowsSizeAndScheme() {
        check.says("In the floor expression, size is the size of the text and scheme is the scheme.");
        ColorScheme x = Check.loaded(TWO + "text 0 1 1;text 1 0 9;floor 1000*scheme+100*size+100;text 0 1 8;text 0 1 2;");
        int[] light = {200, 1000, 900, 300};
        for (int rule = 0; rule < light.length; rule++) {
            check.same("light", light[rule], x.need(rule, 0));
            check.same("dark", light[rule] + 1000, x.need(rule, 1));
        }
        floor("size*100", 500);
        floor("200+scheme", 200, 201);
    }

    private static void dividesByZero() {
        check.says("Division by 0 gives 0.");
        floor("500+7/0", 500);
        floor("500+0/0", 500);
        floor("500+(0-7)/0", 500);
        floor("500+7/1", 507);
        floor("500+7/(0-1)", 493);
        floor("500+7/scheme", 500, 507);
        floor("500+7/(size-5)", 500);
        floor("500+7/0*9", 500);
        floor("500+7/0/0", 500);
        floor("500+9*9/0+1", 501);
        floor("500-9999*9999/(scheme-scheme)", 500);
        floor("500+300/(1/2)", 500);
    }

    private static void truncatesQuotients() {
        check.says("Division truncates toward zero: in the floor expression");
        floor("500+7/2", 503);
        floor("500+8/2", 504);
        floor("500+(0-7)/2", 497);
        floor("500+(0-8)/2", 496);
        floor("500+7/(0-2)", 497);
        floor("500+(0-7)/(0-2)", 503);
        floor("500+(0-1)/2", 500);
        floor("500+1/2", 500);
        floor("500+1/9999", 500);
        floor("500+9999/9999", 501);
    }

    private static void goesFromTheLeft() {
        check.says("The operations of one sum or term are made from the left to the right");
        floor("1000-300-200", 500);
        floor("1000-300+200", 900);
        floor("1000/10/5", 100);
        floor("1000/5*4", 800);
        floor("7/2*200", 600);
        floor("200*7/2", 700);
        floor("1000-(300-200)", 900);
        floor("1000/(10/5)", 500);
        floor("100+2*200", 500);
        floor("2*200+100", 500);
        floor("1000-2*200-100", 500);
    }

    /** 9999*100 is 999900: the sums around 1000000 are told apart by what is left of them. */
    private static void limitsSums() {
        check.says("the result of each one is limited to the range -1000000 to 1000000: sums");
        floor("9999*100+99-9999*100+400", 499);
        floor("9999*100+100-9999*100+400", 500);
        floor("9999*100+101-9999*100+400", 500);
        floor("9999*100+9999-9999*100+400", 500);
        floor("9999*100+9999*100-9999*100+400", 500);
        floor("0-9999*100+(0-99)+9999*100+600", 501);
        floor("0-9999*100+(0-100)+9999*100+600", 500);
        floor("0-9999*100+(0-101)+9999*100+600", 500);
        floor("(9999*100+101)-9999*100+400", 500);
    }

    private static void limitsDifferences() {
        check.says("the result of each one is limited to the range -1000000 to 1000000: differences");
        floor("0-9999*100-99+9999*100+600", 501);
        floor("0-9999*100-100+9999*100+600", 500);
        floor("0-9999*100-101+9999*100+600", 500);
        floor("0-9999*100-9999*100+9999*100+600", 500);
        floor("9999*100-(0-99)-9999*100+400", 499);
        floor("9999*100-(0-100)-9999*100+400", 500);
        floor("9999*100-(0-101)-9999*100+400", 500);
    }

    private static void limitsProducts() {
        check.says("the result of each one is limited to the range -1000000 to 1000000: products");
        // 999 * 1001 is 999999, and 101 * 9901 is 1000001.
        floor("999*1001-9999*100+400", 499);
        floor("1000*1000-9999*100+400", 500);
        floor("101*9901-9999*100+400", 500);
        floor("9999*9999-9999*100+400", 500);
        floor("(0-999)*1001+9999*100+600", 501);
        floor("(0-1000)*1000+9999*100+600", 500);
        floor("(0-101)*9901+9999*100+600", 500);
        floor("9999*(0-9999)+9999*100+600", 500);
        floor("(0-9999)*(0-9999)-9999*100+400", 500);
        // What an int does not hold: 1000000 * 9999 and 1000000 * 1000000.
        floor("1000*1000*9999-9999*100+400", 500);
        floor("(1000*1000)*(1000*1000)-9999*100+400", 500);
        floor("(0-1000*1000)*(1000*1000)+9999*100+600", 500);
        floor("1000*1000*2148-9999*100+400", 500);
        floor("1000*1000*4295-9999*100+400", 500);
    }

    private static void limitsEachResult() {
        check.says("the result of each one is limited: not the last one alone");
        floor("9999*9999/1000", 1000);
        floor("9999*101/1000", 1000);
        floor("9999*9999/9999*9", 900);
        floor("(0-9999)*9999/1000+1600", 600);
        floor("9999*9999*0+500", 500);
        floor("9999*100+9999*100-9999*100-9999*100+1000", 100);
        floor("9999*100+(9999*100-9999*100)-9999*100+500", 500);
    }

    private static void needsWithoutFloor() {
        check.says("Without a floor statement the need is 450.");
        for (int size = 1; size <= 9; size++) {
            ColorScheme x = Check.loaded(TWO + "text 0 1 " + size + ";");
            check.same("light", 450, x.need(0, 0));
            check.same("dark", 450, x.need(0, 1));
        }
        check.same("with one", 100, Check.loaded(TWO + "text 0 1 9;floor 0;").need(0, 0));
        check.same("with one of 449", 449, Check.loaded(TWO + "floor 449;text 0 1 9;").need(0, 0));
        check.same("with one of 451", 451, Check.loaded(TWO + "floor 451;text 0 1 9;").need(0, 1));
    }

    private static void valuesTexts() {
        check.says("Its value in a scheme is the contrast of the colours of both roles in this scheme.");
        ColorScheme x = Check.loaded("scheme;role 0 0 0 dark 9 9 9;role 255 255 255 dark 9 9 9;role 3 0 21 dark 1 0 21;"
            + "text 0 1 1;text 1 0 9;text 2 0 1;");
        int[] light = {2100, 2100, 101};
        int[] dark = {100, 100, 101};
        for (int rule = 0; rule < light.length; rule++) {
            check.same("light " + rule, light[rule], x.value(rule, 0));
            check.same("dark " + rule, dark[rule], x.value(rule, 1));
        }
    }

    private static void valuesDistincts() {
        check.says("Its value in a scheme is the difference of the colours of both roles as they are seen with this sight.");
        ColorScheme x = Check.loaded("scheme;role 0 0 0 dark 9 9 9;role 255 255 255 dark 9 9 9;role 0 0 8 dark 0 0 0;"
            + "distinct 0 1 0 1;distinct 1 0 1 1;distinct 0 1 2 1;distinct 0 1 3 1;distinct 0 1 4 1;distinct 0 2 4 1;"
            + "distinct 2 0 0 1;");
        int[] light = {2295, 2295, 2295, 2295, 2295, 0, 16};
        int[] dark = {0, 0, 0, 0, 0, 81, 81};
        for (int rule = 0; rule < light.length; rule++) {
            check.same("light " + rule, light[rule], x.value(rule, 0));
            check.same("dark " + rule, dark[rule], x.value(rule, 1));
        }
    }

    /** Ten greys of which no two differ as much as two others, and twelve rules, the last two a text and a sight. */
    private static void valuesTwelveRules() {
        check.says("Each of them has two different roles, the first and the second one: twelve rules");
        StringBuilder text = new StringBuilder("scheme;");
        int[] greys = {0, 1, 3, 7, 15, 31, 63, 127, 191, 255};
        for (int grey : greys) {
            text.append("role ").append(grey).append(' ').append(grey).append(' ').append(grey).append(';');
        }
        int[] firsts = {9, 8, 7, 6, 5, 4, 3, 2, 1, 0, 9, 7};
        int[] seconds = {0, 2, 4, 1, 6, 3, 7, 8, 5, 9, 6, 3};
        for (int rule = 0; rule < 12; rule++) {
            text.append(rule == 10 ? "text " : "distinct ").append(firsts[rule]).append(' ').append(seconds[rule]);
            text.append(rule == 10 ? " 9;" : " " + (rule == 11 ? 4 : 0) + " " + (rule + 1) + ";");
        }
        ColorScheme x = Check.loaded(text + "floor 700+scheme;");
        Check.load(x, "scheme;");
        x.undo();
        for (int rule = 0; rule < 12; rule++) {
            int distance = 9 * Math.abs(greys[firsts[rule]] - greys[seconds[rule]]);
            check.same("value " + rule, rule == 10 ? 945 : distance, x.value(rule, 0));
            check.same("value in dark " + rule, rule == 10 ? 1233 : distance, x.value(rule, 1));
            check.same("need " + rule, rule == 10 ? 700 : rule + 1, x.need(rule, 0));
            check.same("need in dark " + rule, rule == 10 ? 701 : rule + 1, x.need(rule, 1));
        }
    }

    private static void keepsAtTheNeed() {
        check.says("A rule is kept in a scheme if its value is at least its need; otherwise it is violated there.");
        for (int need = 8; need <= 10; need++) {
            ColorScheme x = Check.loaded("scheme;role 1 1 1;role 2 2 2;distinct 0 1 0 " + need + ";");
            int due = need <= 9 ? 0 : 2;
            check.same("a difference of 9 and the need " + need, due, x.violations());
            check.same("as margin", 9 - need, x.smallestMargin(0));
            check.same("as shift", need <= 9 ? 0 : 1, x.bestShift(0, 0));
            check.same("as role", need <= 9 ? -1 : 1, x.shiftRole(0, 0));
            check.same("as repair", need <= 9 ? 0 : 2, x.repair(6));
        }
        for (int need = 111; need <= 113; need++) {
            ColorScheme x = Check.loaded("scheme;role 0 0 0 dark 0 0 0;role 20 20 20 dark 0 0 0;text 1 0 1;"
                + "floor " + need + ";");
            check.same("a contrast of 112", 112, x.value(0, 0));
            check.same("and the need " + need, need <= 112 ? 1 : 2, x.violations());
            check.same("as margin", 112 - need, x.smallestMargin(0));
            check.same("as first violation", need <= 112 ? 1 : 0, x.violation(0));
        }
        for (int need = 2098; need <= 2100; need++) {
            ColorScheme x = Check.loaded("scheme;role 0 0 0;role 255 255 254 dark 0 0 0;text 1 0 1;floor " + need + ";");
            check.same("a contrast of 2099 and the need " + need, need <= 2099 ? 0 : 1, x.violations());
        }
    }

    private static void keepsInEachScheme() {
        check.says("otherwise it is violated there: in this scheme, not in the other one");
        ColorScheme x = Check.loaded("scheme;role 0 0 0 dark 0 0 0;role 1 1 1 dark 0 0 1;distinct 0 1 0 9;distinct 0 1 0 2;");
        check.same("violations", 1, x.violations());
        check.same("the first rule in dark", 1, x.violation(0));
        check.same("kept in light", 0, x.bestShift(0, 0));
        check.same("violated in dark", 1, x.bestShift(0, 1));
        check.same("swapped", 1, x.swapSchemes());
        check.same("the first rule in light", 0, x.violation(0));
    }

    private static void countsViolations() {
        check.says("Returns the number of violations.");
        check.same("without rules", 0, Check.loaded(TWO).violations());
        check.same("without roles", 0, new ColorScheme().violations());
        for (int rules = 0; rules <= 12; rules++) {
            String text = "scheme;role 5 5 5 dark 5 5 5;role 5 5 5 dark 6 6 6;" + "distinct 0 1 0 9;".repeat(rules);
            check.same("in light alone", rules, Check.loaded(text).violations());
            String both = "scheme;role 5 5 5 dark 5 5 5;role 5 5 5 dark 5 5 5;" + "distinct 0 1 0 9;".repeat(rules);
            check.same("in both", 2 * rules, Check.loaded(both).violations());
        }
    }

    private static void ordersViolations() {
        check.says("The violations are ordered by the indexes of their rules, those of the same rule by the scheme."
            + " Returns 10 * (its rule) + (its scheme).");
        ColorScheme x = Check.loaded("scheme;role 5 5 5 dark 5 5 5;role 5 5 5 dark 6 6 6;role 6 6 6 dark 5 5 5;"
            + "distinct 0 2 0 9;distinct 0 1 0 9;distinct 0 1 0 10;distinct 0 2 0 10;" + "distinct 0 1 0 9;".repeat(5)
            + "distinct 0 2 0 9;distinct 0 1 0 1;distinct 0 1 0 10;");
        // Rule 0 in dark, 1 in light, 2 and 3 in both, 4 to 8 in light, 9 in dark, 10 in light, 11 in both.
        int[] due = {1, 10, 20, 21, 30, 31, 40, 50, 60, 70, 80, 91, 100, 110, 111};
        check.same("violations", due.length, x.violations());
        for (int i = 0; i < due.length; i++) {
            check.same("violation " + i, due[i], x.violation(i));
        }
    }

    private static void endsViolations() {
        check.says("violation: if there is no such violation");
        ColorScheme x = Check.loaded("scheme;role 5 5 5;role 5 5 5;distinct 0 1 0 9;");
        int[] indexes = {LEAST, -2, -1, 0, 1, 2, 3, MOST};
        Object[] due = {NONE, NONE, NONE, 0, 1, NONE, NONE, NONE};
        for (int i = 0; i < indexes.length; i++) {
            int index = indexes[i];
            check.answers("violation " + index, due[i], () -> x.violation(index));
            check.answers("violation " + index + " without roles", NONE, () -> new ColorScheme().violation(index));
            ColorScheme kept = Check.loaded(TWO + "text 0 1 1;");
            check.answers("violation " + index + " of none", NONE, () -> kept.violation(index));
        }
        ColorScheme full = Check.loaded("scheme;role 5 5 5;role 5 5 5;" + "distinct 0 1 0 9;".repeat(12));
        check.answers("the last of 24", 111, () -> full.violation(23));
        check.answers("one more", NONE, () -> full.violation(24));
    }

    private static void findsMargins() {
        check.says("Returns the smallest value minus need of all rules in this scheme");
        ColorScheme x = Check.loaded("scheme;role 0 0 0;role 255 255 255 dark 0 0 0;distinct 0 1 0 1;");
        check.same("the greatest one", 2294, x.smallestMargin(0));
        check.same("in dark", 2294, x.smallestMargin(1));
        ColorScheme y = Check.loaded("scheme;role 7 7 7;role 7 7 7;distinct 0 1 0 2295;");
        check.same("the smallest one", -2295, y.smallestMargin(0));
        ColorScheme z = Check.loaded("scheme;role 0 0 0 dark 0 0 0;role 255 255 255 dark 0 0 0;text 0 1 1;floor 100;");
        check.same("the greatest one of a text", 2000, z.smallestMargin(0));
        check.same("none at all", 0, z.smallestMargin(1));
        for (int place = 0; place < 12; place++) {
            StringBuilder text = new StringBuilder("scheme;role 5 5 5;role 6 6 6;");
            for (int rule = 0; rule < 12; rule++) {
                text.append("distinct 0 1 0 ").append(rule == place ? 8 : 7).append(';');
            }
            check.same("the smallest at " + place, 1, Check.loaded(text.toString()).smallestMargin(0));
        }
    }

    private static void findsNoMargin() {
        check.says("9999 if there are no rules; if there is no such scheme");
        int[] schemes = {LEAST, -1, 0, 1, 2, MOST};
        Object[] due = {NO_INDEX, NO_INDEX, 9999, 9999, NO_INDEX, NO_INDEX};
        Object[] ruled = {NO_INDEX, NO_INDEX, 1650, 1650, NO_INDEX, NO_INDEX};
        for (int i = 0; i < schemes.length; i++) {
            int scheme = schemes[i];
            check.answers("without roles, scheme " + scheme, due[i], () -> new ColorScheme().smallestMargin(scheme));
            check.answers("without rules, scheme " + scheme, due[i], () -> Check.loaded(TWO).smallestMargin(scheme));
            ColorScheme x = Check.loaded(TWO + "text 0 1 1;");
            check.answers("with a rule, scheme " + scheme, ruled[i], () -> x.smallestMargin(scheme));
        }
    }

    private static void limitsShiftedChannels() {
        check.says("adds d to all three channels of its colour in this scheme;"
            + " each channel is limited to the range 0 to 255 then");
        int[] amounts = {0, 1, 5, 6, 250, 254, 255, -1, -5, -6, -250, -254, -255};
        int[] due = {0x05fa80, 0x06fb81, 0x0aff85, 0x0bff86, 0xffffff, 0xffffff, 0xffffff,
            0x04f97f, 0x00f57b, 0x00f47a, 0, 0, 0};
        for (int i = 0; i < amounts.length; i++) {
            ColorScheme x = Check.loaded("scheme;role 9 9 9;role 5 250 128 dark 1 2 3;");
            check.same("shift by " + amounts[i], due[i], x.shift(1, 0, amounts[i]));
            check.same("the colour then", due[i], x.colour(1, 0));
            check.same("the other scheme", 0x010203, x.colour(1, 1));
            check.same("the other role", 0x090909, x.colour(0, 0));
        }
        ColorScheme x = Check.loaded("scheme;role 0 1 255;");
        check.same("black and white stay in the range", 0x0000fe, x.shift(0, 0, -1));
        check.same("what was limited is lost", 0x0101ff, x.shift(0, 0, 1));
        check.same("254 is no limit", 0xff_ff_ff, x.shift(0, 0, 254));
    }

    private static void best(String what, String text, int amount, int role) {
        ColorScheme x = Check.loaded(text);
        String before = State.shown(x);
        check.same(what + ": amount", amount, x.bestShift(0, 0));
        check.same(what + ": role", role, x.shiftRole(0, 0));
        check.same(what + ": nothing changes", before, State.shown(x));
        check.same(what + ": no change", 0, x.undo());
    }

    private static String greys(int... greys) {
        StringBuilder text = new StringBuilder("scheme;");
        for (int grey : greys) {
            text.append("role ").append(grey).append(' ').append(grey).append(' ').append(grey).append(';');
        }
        return text.toString();
    }

    private static String fixedGreys(int... greys) {
        return greys(greys).substring("scheme;".length()).replace(";", " fixed;");
    }

    private static void mendsWithRolesOfTheRule() {
        check.says("if its role is a role of this rule");
        best("neither of the rule", "scheme;" + fixedGreys(9, 9) + greys(9).substring(7) + "distinct 0 1 0 9;", 9999, -1);
        best("the third role is not asked", greys(50, 50, 50) + "distinct 1 2 0 9;", 1, 1);
        best("the last two of ten", greys(1, 1, 1, 1, 1, 1, 1, 1, 9, 9) + "distinct 9 8 0 9;", 1, 9);
    }

    private static void mendsWithRolesNotFixed() {
        check.says("and not fixed");
        String other = "role 50 50 50";
        best("none is fixed", "scheme;" + other + ";" + other + ";distinct 0 1 0 9;", 1, 0);
        best("the first is fixed", "scheme;" + other + " fixed;" + other + ";distinct 0 1 0 9;", 1, 1);
        best("the second is fixed", "scheme;" + other + ";" + other + " fixed;distinct 0 1 0 9;", 1, 0);
        best("the second is fixed, and comes first", "scheme;" + other + ";" + other + " fixed;distinct 1 0 0 9;", 1, 0);
        best("both are fixed", "scheme;" + other + " fixed;" + other + " fixed;distinct 0 1 0 9;", 9999, -1);
        ColorScheme x = Check.loaded("scheme;" + other + ";" + other + ";distinct 0 1 0 9;");
        x.setFixed(0, true);
        check.same("fixed later", 1, x.shiftRole(0, 0));
        x.setFixed(1, true);
        check.same("both fixed later", -1, x.shiftRole(0, 1));
        check.same("no amount then", 9999, x.bestShift(0, 1));
        x.setFixed(0, false);
        check.same("not fixed any more", 0, x.shiftRole(0, 1));
    }

    private static void mendsIfTheRuleIsKept() {
        check.says("if the rule is kept in this scheme after the shift");
        best("at the need", greys(100, 100) + "distinct 0 1 0 90;", 10, 0);
        best("one above ten steps", greys(100, 100) + "distinct 0 1 0 91;", 11, 0);
        best("one below", greys(100, 100) + "distinct 0 1 0 89;", 10, 0);
        // A shift by 1 mends the second rule, and the number of the violated rules gets smaller: but not the first.
        best("another rule is mended before", greys(100, 100) + "distinct 0 1 0 18;distinct 0 1 0 9;", 2, 0);
        best("a text at its need", "scheme;" + fixedGreys(255) + greys(128).substring(7) + "text 1 0 1;", -19, 1);
    }

    private static void mendsIfFewerAreViolated() {
        check.says("if the number of rules that are violated in this scheme is smaller after the shift than before it");
        String start = greys(100) + fixedGreys(100, 255, 0);
        best("one less", start + "distinct 0 1 0 9;", 1, 0);
        best("as many for plus", start + "distinct 0 1 0 9;distinct 0 2 0 1395;", -1, 0);
        best("as many for minus", start + "distinct 0 1 0 9;distinct 0 3 0 900;", 1, 0);
        best("as many for both", start + "distinct 0 1 0 9;distinct 0 2 0 1395;distinct 0 3 0 900;", 9999, -1);
        best("more for plus", start + "distinct 0 1 0 9;distinct 0 2 0 1395;distinct 2 0 0 1395;", -1, 0);
        best("two mended, one broken", start + "distinct 0 1 0 9;distinct 0 2 0 1395;distinct 1 0 0 9;", 1, 0);
        best("two mended, two broken", start + "distinct 0 1 0 9;distinct 0 2 0 1395;distinct 1 0 0 9;"
            + "distinct 0 2 0 1390;", -1, 0);
        best("broken ones that stay broken", start + "distinct 0 1 0 9;distinct 2 3 0 2295;distinct 1 3 0 901;", 1, 0);
        best("broken before, and broken still", start + "distinct 0 1 0 9;distinct 0 2 0 2000;", 1, 0);
    }

    private static void looksAtThisSchemeAlone() {
        check.says("A shift of a role in a scheme: violated in this scheme");
        ColorScheme x = Check.loaded("scheme;role 100 100 100 dark 0 0 0;role 100 100 100 dark 0 0 0 fixed;"
            + "role 101 101 101 dark 255 255 255 fixed;distinct 0 1 0 9;distinct 0 2 0 9;");
        check.same("light: plus breaks the other rule", -1, x.bestShift(0, 0));
        check.same("dark: plus breaks nothing", 1, x.bestShift(0, 1));
        x.setColour(0, 1, 0x000001);
        check.same("dark: the amounts are those of its colour", 1, x.bestShift(0, 1));
        x.setColour(0, 1, 0xffffff);
        check.same("dark: kept", 0, x.bestShift(0, 1));
        check.same("dark: the other rule is not", -1, x.bestShift(1, 1));
        check.same("light stays", -1, x.bestShift(0, 0));
    }

    private static void takesTheSmallestAmount() {
        check.says("the one with the smallest amount without its sign");
        best("minus 1 before plus 2", greys(255, 255) + "distinct 0 1 0 9;", -1, 0);
        best("minus 19 before plus", "scheme;" + fixedGreys(255) + greys(128).substring(7) + "text 1 0 1;", -19, 1);
        // The greater one has only 5 left upwards.
        best("the second role with less", "scheme;role 250 250 250;role 230 230 230;distinct 0 1 0 270;", -10, 1);
        best("the first role with less", "scheme;role 230 230 230;role 250 250 250;distinct 0 1 0 270;", -10, 0);
        best("a channel that stops takes more", "scheme;role 250 0 0;role 250 0 0 fixed;distinct 0 1 0 100;", 15, 0);
    }

    private static void takesPlusBeforeMinus() {
        check.says("of several, a positive amount before a negative one");
        best("both mend", greys(100, 100) + "distinct 0 1 0 9;", 1, 0);
        best("both mend, by ten", greys(100, 100) + "distinct 0 1 0 90;", 10, 0);
        best("plus of the second before minus of the first", greys(100, 105) + "distinct 0 1 0 54;", 1, 1);
        best("minus of the second alone", greys(255, 250) + "distinct 0 1 0 54;", -1, 1);
        best("minus of the first alone", greys(250, 255) + "distinct 0 1 0 54;", -1, 0);
    }

    private static void takesTheFirstRole() {
        check.says("of several, the first role of the rule before the second one");
        best("of the rule", greys(100, 100) + "distinct 1 0 0 9;", 1, 1);
        best("of the rule and of the roles", greys(100, 100) + "distinct 0 1 0 9;", 1, 0);
        best("with minus", greys(255, 255) + "distinct 1 0 0 9;", -1, 1);
        best("with minus, the other way", greys(255, 255) + "distinct 0 1 0 9;", -1, 0);
    }

    private static void shiftsUpTo255() {
        check.says("by an amount d (-255 to 255)");
        best("254", greys(0, 0) + "distinct 0 1 0 2286;", 254, 0);
        best("255, for 1 more", greys(0, 0) + "distinct 0 1 0 2287;", 255, 0);
        best("255", greys(0, 0) + "distinct 0 1 0 2295;", 255, 0);
        best("-254", greys(255, 255) + "distinct 0 1 0 2286;", -254, 0);
        best("-255, for 1 more", greys(255, 255) + "distinct 0 1 0 2287;", -255, 0);
        best("-255", greys(255, 255) + "distinct 0 1 0 2295;", -255, 0);
        best("255 of the second role", "scheme;" + fixedGreys(0) + greys(0).substring(7) + "distinct 0 1 0 2295;", 255, 1);
        best("-255 of the second role", "scheme;" + fixedGreys(255) + greys(255).substring(7) + "distinct 0 1 0 2295;",
            -255, 1);
    }

    private static void shiftsForEachRule() {
        check.says("Finds the best shift for a violation. Returns the role of the best shift.");
        // Rule n has the roles 2n and 2n + 1, of the same grey; of rules 1 and 3 the first role is fixed.
        StringBuilder text = new StringBuilder("scheme;");
        for (int rule = 0; rule < 5; rule++) {
            String grey = "role " + 50 * rule + " " + 50 * rule + " " + 50 * rule;
            text.append(grey).append(rule % 2 == 1 ? " fixed;" : ";").append(grey).append(";");
        }
        for (int rule = 0; rule < 5; rule++) {
            text.append("distinct ").append(2 * rule).append(' ').append(2 * rule + 1);
            text.append(" 0 ").append(450 + 9 * rule).append(';');
        }
        ColorScheme x = Check.loaded(text.toString());
        int[] light = {50, 51, 52, 53, 54};
        int[] dark = {-50, -51, 52, 53, 54};
        for (int rule = 0; rule < 5; rule++) {
            check.same("amount in light, rule " + rule, light[rule], x.bestShift(rule, 0));
            check.same("amount in dark, rule " + rule, dark[rule], x.bestShift(rule, 1));
            check.same("role in light, rule " + rule, 2 * rule + rule % 2, x.shiftRole(rule, 0));
            check.same("role in dark, rule " + rule, 2 * rule + rule % 2, x.shiftRole(rule, 1));
        }
    }

    private static void findsNoShift() {
        check.says("9999 if no shift mends the violation; -1");
        best("as far as can be", greys(100, 100) + "distinct 0 1 0 1395;", 155, 0);
        best("one more", greys(100, 100) + "distinct 0 1 0 1396;", 9999, -1);
        best("a text that can be mended", greys(0, 0) + "text 0 1 1;floor 2100;", 255, 0);
        best("a text that cannot", greys(1, 1) + "text 0 1 1;floor 2100;", 9999, -1);
        best("both fixed", "scheme;" + fixedGreys(0, 0) + "distinct 0 1 0 1;", 9999, -1);
    }

    private static void findsNothingToMend() {
        check.says("0 if the rule is kept in this scheme; -1");
        best("at the need", greys(100, 101) + "distinct 0 1 0 9;", 0, -1);
        best("one below the need", greys(100, 101) + "distinct 0 1 0 10;", 1, 1);
        best("above the need", greys(100, 101) + "distinct 0 1 0 8;", 0, -1);
        best("kept by fixed roles", "scheme;" + fixedGreys(0, 255) + "distinct 0 1 0 9;", 0, -1);
        best("though another rule is violated", greys(100, 101) + "distinct 0 1 0 9;distinct 0 1 0 10;", 0, -1);
    }

    private static void asksRules() {
        check.says("need, value, bestShift, shiftRole: if there is no such rule");
        ColorScheme x = Check.loaded("scheme;role 9 9 9;role 9 9 9;distinct 0 1 0 9;distinct 0 1 0 18;distinct 0 1 0 27;");
        int[] rules = {LEAST, -1, 0, 2, 3, 11, 12, MOST};
        for (int rule : rules) {
            boolean there = rule == 0 || rule == 2;
            check.answers("need " + rule, there ? (Object) (9 * rule + 9) : NO_INDEX, () -> x.need(rule, 0));
            check.answers("value " + rule, there ? (Object) 0 : NO_INDEX, () -> x.value(rule, 0));
            check.answers("bestShift " + rule, there ? (Object) (rule + 1) : NO_INDEX, () -> x.bestShift(rule, 0));
            check.answers("shiftRole " + rule, there ? (Object) 0 : NO_INDEX, () -> x.shiftRole(rule, 0));
            ColorScheme none = Check.loaded(TWO);
            check.answers("need of none", NO_INDEX, () -> none.need(rule, 0));
            check.answers("value of none", NO_INDEX, () -> none.value(rule, 0));
            check.answers("bestShift of none", NO_INDEX, () -> none.bestShift(rule, 0));
            check.answers("shiftRole of none", NO_INDEX, () -> none.shiftRole(rule, 0));
        }
        ColorScheme full = Check.loaded("scheme;role 9 9 9;role 9 9 9;" + "distinct 0 1 0 9;".repeat(12));
        check.answers("the last of 12", 9, () -> full.need(11, 1));
        check.answers("one more", NO_INDEX, () -> full.need(12, 1));
        check.answers("the value of the last", 0, () -> full.value(11, 1));
        check.answers("one more", NO_INDEX, () -> full.value(12, 1));
        check.answers("the best shift of the last", 1, () -> full.bestShift(11, 1));
        check.answers("one more", NO_INDEX, () -> full.bestShift(12, 1));
        check.answers("its role", 0, () -> full.shiftRole(11, 1));
        check.answers("one more", NO_INDEX, () -> full.shiftRole(12, 1));
    }

    private static void asksSchemes() {
        check.says("need, value, bestShift, shiftRole: if there is no such scheme");
        ColorScheme x = Check.loaded("scheme;role 9 9 9 dark 1 1 1;role 9 9 9 dark 2 2 2;distinct 0 1 0 9;");
        for (int scheme : new int[] {LEAST, -1, 0, 1, 2, MOST}) {
            boolean there = scheme == 0 || scheme == 1;
            check.answers("need in " + scheme, there ? (Object) 9 : NO_INDEX, () -> x.need(0, scheme));
            check.answers("value in " + scheme, there ? (Object) (9 * scheme) : NO_INDEX, () -> x.value(0, scheme));
            check.answers("bestShift in " + scheme, there ? (Object) (1 - scheme) : NO_INDEX, () -> x.bestShift(0, scheme));
            check.answers("shiftRole in " + scheme, there ? (Object) (-scheme) : NO_INDEX, () -> x.shiftRole(0, scheme));
            check.answers("rule 1 in " + scheme, NO_INDEX, () -> x.need(1, scheme));
        }
    }
}
