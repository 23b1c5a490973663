import java.util.NoSuchElementException;

/** A colour scheme with rules for its light and its dark appearance, and repairs of what breaks them. */
public final class ColorScheme {
    public static final int SYNTAX_ERROR = -2;
    public static final int OUT_OF_RANGE = -3;
    public static final int TOO_MANY = -4;
    public static final int TOO_DEEP = -5;

    private static final int INPUT_SIZE = 700;
    private static final int APPEND_SIZE = 20;
    private static final int MAX_ROLES = 10;
    private static final int MAX_RULES = 12;
    private static final int MAX_UNDOS = 8;
    private static final int MAX_DEPTH = 4;
    private static final int MAX_REPAIRS = 6;

    private static final int LIGHT = 0;
    private static final int DARK = 1;
    private static final int SCHEMES = 2;
    private static final int SIGHTS = 5;
    private static final int PLAIN_SIGHT = 0;

    private static final int MAX_CHANNEL = 255;
    private static final int MAX_COLOUR = 16777215;
    private static final int MAX_DIFFERENCE = 2295;
    private static final int MAX_SIZE = 9;
    private static final int MAX_FACTOR = 9999;
    private static final int RESULT_LIMIT = 1000000;
    private static final int MIN_TEXT_NEED = 100;
    private static final int MAX_TEXT_NEED = 2100;
    private static final int USUAL_TEXT_NEED = 450;
    private static final int NOTHING_FOUND = 9999;

    /** Stands where a distinct rule has its sight. */
    private static final int TEXT = -1;

    /** For each amount without its sign: two signs, and two roles with each. */
    private static final int SHIFT_CHOICES = 4 * MAX_CHANNEL;

    /** Nine factors a sight, in thousandths: those of r, g and b for each channel that is seen. */
    private static final int[] SIGHT_FACTORS = {
        1000, 0, 0, 0, 1000, 0, 0, 0, 1000,
        152, 1053, -205, 115, 786, 99, -4, -48, 1052,
        367, 861, -228, 280, 673, 47, -12, 43, 969,
        1256, -77, -179, -78, 930, 148, 5, 691, 304,
        299, 587, 114, 299, 587, 114, 299, 587, 114
    };

    private final byte[] input = new byte[INPUT_SIZE];
    private final SetupReader reader = new SetupReader(input);
    private final Design design = new Design();
    private final Design draft = new Design();
    private final History history = new History();
    private int inputLength = 0;
    private int latestErrorOffset = -1;

    public ColorScheme() {
    }

    public int append(int w0, int w1, int w2, int w3, int w4) {
        if (inputLength + APPEND_SIZE > INPUT_SIZE) {
            return -1;
        }
        putWord(inputLength, w0);
        putWord(inputLength + 4, w1);
        putWord(inputLength + 8, w2);
        putWord(inputLength + 12, w3);
        putWord(inputLength + 16, w4);
        inputLength += APPEND_SIZE;
        return inputLength;
    }

    public int load(int length) throws IllegalArgumentException {
        if (length < 0 || length > inputLength) {
            throw new IllegalArgumentException("the buffer has no such length");
        }
        inputLength = 0;
        int error = reader.read(length, draft);
        latestErrorOffset = reader.errorStart();
        if (error != 0) {
            return error;
        }
        history.keep(design);
        design.copyFrom(draft);
        return design.rules;
    }

    public int errorOffset() {
        return latestErrorOffset;
    }

    public int roleCount() {
        return design.roles;
    }

    public int ruleCount() {
        return design.rules;
    }

    public int colour(int role, int scheme) throws IndexOutOfBoundsException {
        requireRole(role);
        requireScheme(scheme);
        return design.colours[scheme][role];
    }

    public boolean isFixed(int role) throws IndexOutOfBoundsException {
        requireRole(role);
        return design.fixed[role];
    }

    public int luminance(int role, int scheme) throws IndexOutOfBoundsException {
        requireRole(role);
        requireScheme(scheme);
        return Colours.luminanceOf(design.colours[scheme][role]);
    }

    public int contrast(int first, int second, int scheme) throws IndexOutOfBoundsException {
        requireRole(first);
        requireRole(second);
        requireScheme(scheme);
        return Colours.contrastOf(design.colours[scheme][first], design.colours[scheme][second]);
    }

    public int seen(int role, int scheme, int sight) throws IndexOutOfBoundsException, IllegalArgumentException {
        requireRole(role);
        requireScheme(scheme);
        requireSight(sight);
        return Colours.seenWith(design.colours[scheme][role], sight);
    }

    public int difference(int first, int second, int scheme, int sight)
            throws IndexOutOfBoundsException, IllegalArgumentException {
        requireRole(first);
        requireRole(second);
        requireScheme(scheme);
        requireSight(sight);
        return Colours.differenceOf(design.colours[scheme][first], design.colours[scheme][second], sight);
    }

    public int nearest(int colour, int scheme) throws IndexOutOfBoundsException, IllegalArgumentException {
        requireScheme(scheme);
        requireColour(colour);
        return design.nearestRole(colour, scheme);
    }

    public int need(int rule, int scheme) throws IndexOutOfBoundsException {
        requireRule(rule);
        requireScheme(scheme);
        return design.needs[scheme][rule];
    }

    public int value(int rule, int scheme) throws IndexOutOfBoundsException {
        requireRule(rule);
        requireScheme(scheme);
        return design.ruleValue(rule, scheme);
    }

    public int violations() {
        return design.violatedIn(LIGHT) + design.violatedIn(DARK);
    }

    public int violation(int index) throws NoSuchElementException {
        int place = design.violationPlace(index);
        if (place < 0) {
            throw new NoSuchElementException("no such violation");
        }
        return 10 * (place / SCHEMES) + place % SCHEMES;
    }

    public int smallestMargin(int scheme) throws IndexOutOfBoundsException {
        requireScheme(scheme);
        return design.leastMargin(scheme);
    }

    public int bestShift(int rule, int scheme) throws IndexOutOfBoundsException {
        requireRule(rule);
        requireScheme(scheme);
        if (design.isKept(rule, scheme)) {
            return 0;
        }
        int choice = design.bestChoice(rule, scheme);
        return choice < 0 ? NOTHING_FOUND : Design.choiceAmount(choice);
    }

    public int shiftRole(int rule, int scheme) throws IndexOutOfBoundsException {
        requireRule(rule);
        requireScheme(scheme);
        if (design.isKept(rule, scheme)) {
            return -1;
        }
        int choice = design.bestChoice(rule, scheme);
        return choice < 0 ? -1 : design.choiceRole(rule, choice);
    }

    public int setColour(int role, int scheme, int colour)
            throws IndexOutOfBoundsException, IllegalArgumentException {
        requireRole(role);
        requireScheme(scheme);
        requireColour(colour);
        history.keep(design);
        int previous = design.colours[scheme][role];
        design.colours[scheme][role] = colour;
        return previous;
    }

    public boolean setFixed(int role, boolean fixed) throws IndexOutOfBoundsException {
        requireRole(role);
        history.keep(design);
        boolean previous = design.fixed[role];
        design.fixed[role] = fixed;
        return previous;
    }

    public int shift(int role, int scheme, int amount)
            throws IndexOutOfBoundsException, IllegalArgumentException, IllegalStateException {
        requireRole(role);
        requireScheme(scheme);
        if (amount < -MAX_CHANNEL || amount > MAX_CHANNEL) {
            throw new IllegalArgumentException("an amount is -255 to 255");
        }
        if (design.fixed[role]) {
            throw new IllegalStateException("the role is fixed");
        }
        history.keep(design);
        design.colours[scheme][role] = Colours.shifted(design.colours[scheme][role], amount);
        return design.colours[scheme][role];
    }

    public int repair(int most) throws IllegalArgumentException {
        if (most < 1 || most > MAX_REPAIRS) {
            throw new IllegalArgumentException("at most 1 to 6 shifts");
        }
        history.keep(design);
        int made = 0;
        while (made < most && design.mendFirst()) {
            made++;
        }
        return made;
    }

    public int swapSchemes() {
        history.keep(design);
        design.exchangeColours();
        return violations();
    }

    public int undo() {
        if (history.kept == 0) {
            return -1;
        }
        history.takeBack(design);
        return history.kept;
    }

    public long checksum() {
        long sum = 0;
        for (int role = 0; role < design.roles; role++) {
            sum = 31 * sum + design.colours[LIGHT][role];
            sum = 31 * sum + design.colours[DARK][role];
            sum = 31 * sum + (design.fixed[role] ? 1 : 0);
        }
        for (int rule = 0; rule < design.rules; rule++) {
            sum = 31 * sum + design.ruleValue(rule, LIGHT);
            sum = 31 * sum + design.ruleValue(rule, DARK);
        }
        return sum;
    }

    private void putWord(int offset, int word) {
        input[offset] = (byte) (word >> 24);
        input[offset + 1] = (byte) (word >> 16);
        input[offset + 2] = (byte) (word >> 8);
        input[offset + 3] = (byte) word;
    }

    private void requireRole(int role) {
        if (role < 0 || role >= design.roles) {
            throw new IndexOutOfBoundsException("no such role");
        }
    }

    private void requireRule(int rule) {
        if (rule < 0 || rule >= design.rules) {
            throw new IndexOutOfBoundsException("no such rule");
        }
    }

    private void requireScheme(int scheme) {
        if (scheme < 0 || scheme >= SCHEMES) {
            throw new IndexOutOfBoundsException("no such scheme");
        }
    }

    private void requireSight(int sight) {
        if (sight < 0 || sight >= SIGHTS) {
            throw new IllegalArgumentException("a sight is 0 to 4");
        }
    }

    private void requireColour(int colour) {
        if (colour < 0 || colour > MAX_COLOUR) {
            throw new IllegalArgumentException("a colour is 0 to 16777215");
        }
    }

    private static int limited(int number, int low, int high) {
        return number < low ? low : number > high ? high : number;
    }

    /** The arithmetic of single colours. */
    private static final class Colours {
        private Colours() {
        }

        static int red(int colour) {
            return colour / 65536;
        }

        static int green(int colour) {
            return colour / 256 % 256;
        }

        static int blue(int colour) {
            return colour % 256;
        }

        static int joined(int r, int g, int b) {
            return 65536 * r + 256 * g + b;
        }

        static int luminanceOf(int colour) {
            int r = red(colour);
            int g = green(colour);
            int b = blue(colour);
            return (2126 * r * r + 7152 * g * g + 722 * b * b) / 10000;
        }

        static int contrastOf(int one, int other) {
            int a = luminanceOf(one) + 3251;
            int b = luminanceOf(other) + 3251;
            int smaller = Math.min(a, b);
            // No luminance is negative, so this is only the look at the divisor.
            return smaller <= 0 ? 0 : 100 * Math.max(a, b) / smaller;
        }

        static int seenWith(int colour, int sight) {
            int row = 9 * sight;
            return joined(seenChannel(colour, row), seenChannel(colour, row + 3), seenChannel(colour, row + 6));
        }

        private static int seenChannel(int colour, int row) {
            int thousandths = SIGHT_FACTORS[row] * red(colour)
                + SIGHT_FACTORS[row + 1] * green(colour)
                + SIGHT_FACTORS[row + 2] * blue(colour);
            return limited(thousandths / 1000, 0, MAX_CHANNEL);
        }

        static int differenceOf(int one, int other, int sight) {
            int row = 9 * sight;
            return 3 * Math.abs(seenChannel(one, row) - seenChannel(other, row))
                + 4 * Math.abs(seenChannel(one, row + 3) - seenChannel(other, row + 3))
                + 2 * Math.abs(seenChannel(one, row + 6) - seenChannel(other, row + 6));
        }

        static int shifted(int colour, int amount) {
            return joined(
                limited(red(colour) + amount, 0, MAX_CHANNEL),
                limited(green(colour) + amount, 0, MAX_CHANNEL),
                limited(blue(colour) + amount, 0, MAX_CHANNEL));
        }
    }

    /** All data that a change may touch: the roles and the rules. */
    private static final class Design {
        int roles = 0;
        final int[][] colours = new int[SCHEMES][MAX_ROLES];
        final boolean[] fixed = new boolean[MAX_ROLES];
        int rules = 0;
        final int[] firsts = new int[MAX_RULES];
        final int[] seconds = new int[MAX_RULES];
        final int[] sights = new int[MAX_RULES];
        final int[][] needs = new int[SCHEMES][MAX_RULES];

        void clear() {
            roles = 0;
            rules = 0;
        }

        void addRole(int light, int dark, boolean isFixedRole) {
            if (roles < MAX_ROLES) {
                colours[LIGHT][roles] = light;
                colours[DARK][roles] = dark;
                fixed[roles] = isFixedRole;
                roles++;
            }
        }

        void addRule(int first, int second, int sight, int ruleNeed) {
            if (rules < MAX_RULES) {
                firsts[rules] = first;
                seconds[rules] = second;
                sights[rules] = sight;
                needs[LIGHT][rules] = ruleNeed;
                needs[DARK][rules] = ruleNeed;
                rules++;
            }
        }

        void copyFrom(Design other) {
            roles = other.roles;
            rules = other.rules;
            for (int scheme = 0; scheme < SCHEMES; scheme++) {
                System.arraycopy(other.colours[scheme], 0, colours[scheme], 0, MAX_ROLES);
                System.arraycopy(other.needs[scheme], 0, needs[scheme], 0, MAX_RULES);
            }
            for (int role = 0; role < MAX_ROLES; role++) {
                fixed[role] = other.fixed[role];
            }
            System.arraycopy(other.firsts, 0, firsts, 0, MAX_RULES);
            System.arraycopy(other.seconds, 0, seconds, 0, MAX_RULES);
            System.arraycopy(other.sights, 0, sights, 0, MAX_RULES);
        }

        void exchangeColours() {
            for (int role = 0; role < roles; role++) {
                int light = colours[LIGHT][role];
                colours[LIGHT][role] = colours[DARK][role];
                colours[DARK][role] = light;
            }
        }

        int nearestRole(int colour, int scheme) {
            int best = -1;
            int bestDifference = MAX_DIFFERENCE + 1;
            for (int role = 0; role < roles; role++) {
                int roleDifference = Colours.differenceOf(colours[scheme][role], colour, PLAIN_SIGHT);
                if (roleDifference < bestDifference) {
                    best = role;
                    bestDifference = roleDifference;
                }
            }
            return best;
        }

        int ruleValue(int rule, int scheme) {
            int one = colours[scheme][firsts[rule]];
            int other = colours[scheme][seconds[rule]];
            if (sights[rule] == TEXT) {
                return Colours.contrastOf(one, other);
            }
            return Colours.differenceOf(one, other, sights[rule]);
        }

        boolean isKept(int rule, int scheme) {
            return ruleValue(rule, scheme) >= needs[scheme][rule];
        }

        int leastMargin(int scheme) {
            int least = NOTHING_FOUND;
            for (int rule = 0; rule < rules; rule++) {
                least = Math.min(least, ruleValue(rule, scheme) - needs[scheme][rule]);
            }
            return least;
        }

        int violatedIn(int scheme) {
            int count = 0;
            for (int rule = 0; rule < rules; rule++) {
                if (ruleValue(rule, scheme) < needs[scheme][rule]) {
                    count++;
                }
            }
            return count;
        }

        /** The violation's place, 2 * its rule + its scheme, or -1 if there is no such violation. */
        int violationPlace(int index) {
            int passed = 0;
            for (int place = 0; place < SCHEMES * rules; place++) {
                if (!isKept(place / SCHEMES, place % SCHEMES)) {
                    if (passed == index) {
                        return place;
                    }
                    passed++;
                }
            }
            return -1;
        }

        /**
         * The choices are the shifts of a rule's two roles, numbered in the order in which they are preferred;
         * so the first one that mends is the best one. -1 if none does.
         */
        int bestChoice(int rule, int scheme) {
            int violatedBefore = violatedIn(scheme);
            int best = -1;
            for (int choice = 0; choice < SHIFT_CHOICES && best < 0; choice++) {
                int role = choiceRole(rule, choice);
                if (!fixed[role]) {
                    int before = colours[scheme][role];
                    colours[scheme][role] = Colours.shifted(before, choiceAmount(choice));
                    if (isKept(rule, scheme) && violatedIn(scheme) < violatedBefore) {
                        best = choice;
                    }
                    colours[scheme][role] = before;
                }
            }
            return best;
        }

        static int choiceAmount(int choice) {
            int size = choice / 4 + 1;
            return choice / 2 % 2 == 0 ? size : -size;
        }

        int choiceRole(int rule, int choice) {
            return choice % 2 == 0 ? firsts[rule] : seconds[rule];
        }

        /** Makes the best shift for the first violation that has one; answers whether there was one. */
        boolean mendFirst() {
            for (int place = 0; place < SCHEMES * rules; place++) {
                int rule = place / SCHEMES;
                int scheme = place % SCHEMES;
                int choice = isKept(rule, scheme) ? -1 : bestChoice(rule, scheme);
                if (choice >= 0) {
                    int role = choiceRole(rule, choice);
                    colours[scheme][role] = Colours.shifted(colours[scheme][role], choiceAmount(choice));
                    return true;
                }
            }
            return false;
        }
    }

    /** The data as they were before each of the latest changes, in a ring of designs that are used again. */
    private static final class History {
        private final Design[] ring = new Design[MAX_UNDOS];
        private int next = 0;
        int kept = 0;

        History() {
            for (int i = 0; i < MAX_UNDOS; i++) {
                ring[i] = new Design();
            }
        }

        void keep(Design design) {
            ring[next].copyFrom(design);
            next = (next + 1) % MAX_UNDOS;
            kept = Math.min(kept + 1, MAX_UNDOS);
        }

        void takeBack(Design design) {
            if (kept > 0) {
                kept--;
                next = (next + MAX_UNDOS - 1) % MAX_UNDOS;
                design.copyFrom(ring[next]);
            }
        }
    }

    /** The tokens of a setup text, one at a time, up to the first error: with it the tokens end. */
    private static final class Tokens {
        private static final int END = 0;
        private static final int NUMBER = 1;
        private static final int WORD = 2;
        private static final int SIGN = 3;

        private final byte[] text;
        private int length = 0;
        private int kind = END;
        private int start = 0;
        private int end = 0;
        private int number = 0;
        private int error = 0;

        Tokens(byte[] text) {
            this.text = text;
        }

        void open(int textLength) {
            length = Math.min(textLength, text.length);
            end = 0;
            error = 0;
            advance();
        }

        /** Goes to the token behind a place of the text that was opened. */
        void reopen(int place) {
            end = Math.max(place, 0);
            advance();
        }

        boolean hasMore() {
            return kind != END;
        }

        boolean isNumber() {
            return kind == NUMBER;
        }

        int currentNumber() {
            return number;
        }

        int currentStart() {
            return start;
        }

        int currentEnd() {
            return end;
        }

        int firstError() {
            return error;
        }

        /** Later errors have greater offsets: only the first one counts, and nothing is read after it. */
        void fail(int code) {
            if (error == 0) {
                error = code;
                kind = END;
            }
        }

        void advance() {
            if (error != 0) {
                return;
            }
            start = end;
            while (start < length && text[start] == ' ') {
                start++;
            }
            end = start;
            number = 0;
            if (start >= length) {
                kind = END;
            } else if (isDigit(text[start])) {
                kind = NUMBER;
                while (end < length && isDigit(text[end])) {
                    // No range reaches this limit, so a number of any length stays out of range.
                    number = Math.min(10 * number + text[end] - '0', RESULT_LIMIT);
                    end++;
                }
            } else if (isLetter(text[start])) {
                kind = WORD;
                while (end < length && isLetter(text[end])) {
                    end++;
                }
            } else {
                kind = SIGN;
                end = start + 1;
            }
        }

        private static boolean isDigit(byte b) {
            return b >= '0' && b <= '9';
        }

        private static boolean isLetter(byte b) {
            return b >= 'a' && b <= 'z';
        }

        boolean isWord(String word) {
            if (kind != WORD || end - start != word.length()) {
                return false;
            }
            for (int i = 0; i < word.length(); i++) {
                if (text[start + i] != word.charAt(i)) {
                    return false;
                }
            }
            return true;
        }

        boolean isSign(char sign) {
            return kind == SIGN && text[start] == sign;
        }

        /** Goes past this word if it is the next token; answers whether it was. */
        boolean passWord(String word) {
            boolean found = isWord(word);
            if (found) {
                advance();
            }
            return found;
        }

        boolean passSign(char sign) {
            boolean found = isSign(sign);
            if (found) {
                advance();
            }
            return found;
        }

        void needWord(String word) {
            if (!passWord(word)) {
                fail(SYNTAX_ERROR);
            }
        }

        void needSign(char sign) {
            if (!passSign(sign)) {
                fail(SYNTAX_ERROR);
            }
        }

        int needNumber(int low, int high) {
            if (kind != NUMBER) {
                fail(SYNTAX_ERROR);
                return low;
            }
            int taken = number;
            if (taken < low || taken > high) {
                fail(OUT_OF_RANGE);
                return low;
            }
            advance();
            return taken;
        }
    }

    /** The floor expression: it is kept as its place in the text and worked out there for each size and scheme. */
    private static final class Floor {
        private static final int NOWHERE = -1;

        private final Tokens tokens;
        private int place = NOWHERE;
        private int size = 0;
        private int scheme = 0;

        Floor(Tokens tokens) {
            this.tokens = tokens;
        }

        void forget() {
            place = NOWHERE;
        }

        boolean isThere() {
            return place != NOWHERE;
        }

        /** Reads the expression behind the word floor for its errors alone. */
        void readSum() {
            place = tokens.currentEnd();
            tokens.advance();
            sum(0);
        }

        int textNeed(int textSize, int textScheme) {
            if (place == NOWHERE) {
                return USUAL_TEXT_NEED;
            }
            size = textSize;
            scheme = textScheme;
            tokens.reopen(place);
            return limited(sum(0), MIN_TEXT_NEED, MAX_TEXT_NEED);
        }

        private int sum(int depth) {
            int result = term(depth);
            for (int i = 0; i < INPUT_SIZE; i++) {
                if (tokens.passSign('+')) {
                    result = limited(result + term(depth), -RESULT_LIMIT, RESULT_LIMIT);
                } else if (tokens.passSign('-')) {
                    result = limited(result - term(depth), -RESULT_LIMIT, RESULT_LIMIT);
                } else {
                    break;
                }
            }
            return result;
        }

        private int term(int depth) {
            int result = factor(depth);
            for (int i = 0; i < INPUT_SIZE; i++) {
                if (tokens.passSign('*')) {
                    result = product(result, factor(depth));
                } else if (tokens.passSign('/')) {
                    result = quotient(result, factor(depth));
                } else {
                    break;
                }
            }
            return result;
        }

        private int factor(int depth) {
            if (tokens.isNumber()) {
                return tokens.needNumber(0, MAX_FACTOR);
            }
            if (tokens.passWord("size")) {
                return size;
            }
            if (tokens.passWord("scheme")) {
                return scheme;
            }
            if (!tokens.isSign('(')) {
                tokens.fail(SYNTAX_ERROR);
                return 0;
            }
            if (depth >= MAX_DEPTH) {
                tokens.fail(TOO_DEEP);
                return 0;
            }
            tokens.advance();
            int result = sum(depth + 1);
            tokens.needSign(')');
            return result;
        }

        private static int product(int a, int b) {
            long exact = (long) a * b;
            return (int) Math.max(-RESULT_LIMIT, Math.min(RESULT_LIMIT, exact));
        }

        private static int quotient(int a, int b) {
            return b == 0 ? 0 : a / b;
        }
    }

    /** Reads a setup text into a design. */
    private static final class SetupReader {
        private final Tokens tokens;
        private final Floor floor;
        private final int[] sizes = new int[MAX_RULES];
        private int offsetOfError = -1;

        SetupReader(byte[] text) {
            tokens = new Tokens(text);
            floor = new Floor(tokens);
        }

        int errorStart() {
            return offsetOfError;
        }

        /** Answers 0 or the code of the first error; with an error the design is of no use. */
        int read(int length, Design design) {
            design.clear();
            floor.forget();
            tokens.open(length);
            tokens.needWord("scheme");
            tokens.needSign(';');
            for (int i = 0; i < INPUT_SIZE && tokens.hasMore(); i++) {
                readStatement(design);
                tokens.needSign(';');
            }
            int error = tokens.firstError();
            offsetOfError = error == 0 ? -1 : tokens.currentStart();
            if (error == 0) {
                setTextNeeds(design);
            }
            return error;
        }

        private void readStatement(Design design) {
            if (tokens.isWord("role")) {
                readRole(design);
            } else if (tokens.isWord("text")) {
                readRule(design, true);
            } else if (tokens.isWord("distinct")) {
                readRule(design, false);
            } else if (tokens.isWord("floor") && !floor.isThere()) {
                floor.readSum();
            } else {
                tokens.fail(SYNTAX_ERROR);
            }
        }

        private void readRole(Design design) {
            if (design.roles >= MAX_ROLES) {
                tokens.fail(TOO_MANY);
                return;
            }
            tokens.advance();
            int light = readColour();
            int dark = MAX_COLOUR - light;
            if (tokens.passWord("dark")) {
                dark = readColour();
            }
            boolean isFixedRole = tokens.passWord("fixed");
            if (tokens.firstError() == 0) {
                design.addRole(light, dark, isFixedRole);
            }
        }

        private int readColour() {
            int r = tokens.needNumber(0, MAX_CHANNEL);
            int g = tokens.needNumber(0, MAX_CHANNEL);
            int b = tokens.needNumber(0, MAX_CHANNEL);
            return Colours.joined(r, g, b);
        }

        private void readRule(Design design, boolean isText) {
            if (design.rules >= MAX_RULES) {
                tokens.fail(TOO_MANY);
                return;
            }
            tokens.advance();
            int first = tokens.needNumber(0, design.roles - 1);
            if (tokens.isNumber() && tokens.currentNumber() == first) {
                tokens.fail(OUT_OF_RANGE);
            }
            int second = tokens.needNumber(0, design.roles - 1);
            int sight = isText ? TEXT : tokens.needNumber(0, SIGHTS - 1);
            int sizeOrNeed = tokens.needNumber(1, isText ? MAX_SIZE : MAX_DIFFERENCE);
            if (tokens.firstError() == 0) {
                sizes[design.rules] = sizeOrNeed;
                design.addRule(first, second, sight, sizeOrNeed);
            }
        }

        /** Only at the end of the text: the floor statement may stand after the texts. */
        private void setTextNeeds(Design design) {
            for (int rule = 0; rule < design.rules; rule++) {
                if (design.sights[rule] == TEXT) {
                    design.needs[LIGHT][rule] = floor.textNeed(sizes[rule], LIGHT);
                    design.needs[DARK][rule] = floor.textNeed(sizes[rule], DARK);
                }
            }
        }
    }
}
