/** What an object shows, as texts to compare. Three roles and two rules take some 40 calls of the 512 that it has. */
final class State {
    private static final int SPACES = 0x20202020;

    private State() {
    }

    /** All that can be asked for without a change. */
    static String shown(ColorScheme x) {
        StringBuilder text = new StringBuilder();
        int roles = x.roleCount();
        int rules = x.ruleCount();
        int violations = x.violations();
        add(text, "\nroles", roles);
        add(text, "rules", rules);
        add(text, "error", x.errorOffset());
        add(text, "checksum", x.checksum());
        add(text, "margins", x.smallestMargin(0));
        add(text, "and", x.smallestMargin(1));
        for (int i = 0; i < violations; i++) {
            add(text, "violation", x.violation(i));
        }
        for (int role = 0; role < roles; role++) {
            add(text, "colours", x.colour(role, 0));
            add(text, "and", x.colour(role, 1));
            add(text, "fixed", x.isFixed(role) ? 1 : 0);
        }
        for (int rule = 0; rule < rules; rule++) {
            add(text, "needs", x.need(rule, 0));
            add(text, "and", x.need(rule, 1));
            add(text, "values", x.value(rule, 0));
            add(text, "and", x.value(rule, 1));
            add(text, "shifts", x.bestShift(rule, 0));
            add(text, "of", x.shiftRole(rule, 0));
            add(text, "and", x.bestShift(rule, 1));
            add(text, "of", x.shiftRole(rule, 1));
        }
        return text.toString();
    }

    /** The same, then all that undo brings back, then what the input buffer holds: the object is used up by it. */
    static String whole(ColorScheme x) {
        StringBuilder text = new StringBuilder(shown(x));
        for (int i = 0; i < 9; i++) {
            add(text, "\nundo", x.undo());
            text.append(shown(x));
        }
        int length = x.append(SPACES, SPACES, SPACES, SPACES, SPACES);
        add(text, "\nappend", length);
        add(text, "load", x.load(length < 0 ? 700 : length));
        text.append(shown(x));
        return text.toString();
    }

    private static void add(StringBuilder text, String name, long number) {
        text.append(name).append(' ').append(number).append(' ');
    }
}
