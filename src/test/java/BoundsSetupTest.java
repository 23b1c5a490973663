/** Each sentence of the setup text and of promises 1 to 6 that names a boundary case: a method for each. */
public final class BoundsSetupTest {
    private static final Check check = new Check();
    private static final int SYNTAX = -2;
    private static final int RANGE = -3;
    private static final int MANY = -4;
    private static final int DEEP = -5;
    private static final int SPACES = 0x20202020;
    private static final String ONE = "scheme;role 0 0 0;";
    private static final String TWO = ONE + "role 255 255 255;";
    private static final String TEN_ROLES = "scheme;" + "role 0 0 0;".repeat(10);
    private static final String TWELVE_RULES = TWO + "text 0 1 1;".repeat(6) + "distinct 0 1 0 1;".repeat(6);

    public static void main(String[] args) {
        newObject();
        appendsBytes();
        appendsUpToTheEnd();
        readsTheFirstBytes();
        replacesAllData();
        emptiesTheBuffer();
        leavesAllElseAfterAnError();
        readsNoText();
        answersTheRules();
        refusesLengths();
        tellsTheOffset();
        countsRolesAndRules();
        startsWithoutRoles();
        grammar();
        tokens();
        roles();
        rules();
        floors();
        errors();
        check.end("BoundsSetupTest");
    }

    private static void grammar() {
        readsLongTexts();
        readsStatements();
        readsRoleParts();
        readsSums();
        readsTerms();
        readsFactors();
    }

    private static void tokens() {
        readsNumbersOfAnyLength();
        readsWords();
        readsDigits();
        readsLongRuns();
        readsSpaces();
        readsNoSpaces();
        readsNoOtherBytes();
    }

    private static void roles() {
        takesTenRoles();
        takesChannels();
        makesTheDarkColour();
    }

    private static void rules() {
        takesTwelveRules();
        takesTextNumbers();
        takesDistinctNumbers();
        wantsRolesBefore();
        wantsDifferentRoles();
    }

    private static void floors() {
        takesFactors();
        nestsFour();
        takesOneFloor();
    }

    private static void errors() {
        findsTheFirstError();
        ordersKindsOfErrors();
        placesSyntaxErrors();
        placesEndsOfText();
        placesSecondFloors();
        placesRangeErrors();
        placesTooMany();
        placesTooDeep();
    }

    private static void newObject() {
        check.says("Creates an object without roles, with an empty input buffer.");
        ColorScheme x = new ColorScheme();
        check.same("roles", 0, x.roleCount());
        check.same("rules", 0, x.ruleCount());
        check.refuses("colour of role 0", IndexOutOfBoundsException.class, () -> x.colour(0, 0));
        check.refuses("one byte of the buffer", IllegalArgumentException.class, () -> x.load(1));
        check.same("the first length", 20, x.append(0, 0, 0, 0, 0));
        check.same("another object has its own buffer", 20, new ColorScheme().append(0, 0, 0, 0, 0));
    }

    private static void appendsBytes() {
        check.says("Appends 20 bytes: the 4 bytes of each argument, the most significant byte first.");
        ColorScheme x = new ColorScheme();
        // "sche" "me;r" "ole1" " 2 3" ";   "
        check.same("a text", 20, x.append(0x73636865, 0x6d653b72, 0x6f6c6531, 0x20322033, 0x3b202020));
        check.same("it is read", 0, x.load(20));
        check.same("its numbers", 0x010203, x.colour(0, 0));
        for (int place = 0; place < 20; place++) {
            int[] words = {SPACES, SPACES, SPACES, SPACES, SPACES};
            words[place / 4] ^= 0x80 << 24 - place % 4 * 8;
            x.append(words[0], words[1], words[2], words[3], words[4]);
            check.same("a byte with its high bit at " + place, SYNTAX, x.load(20));
            check.same("its offset", place, x.errorOffset());
        }
        for (int word : new int[] {Integer.MIN_VALUE, Integer.MAX_VALUE, -1, 0, 0xa0a0a0a0, 0x2020203b}) {
            check.same("any words", 20, x.append(SPACES, word, word, word, word));
            check.same("their bytes are no scheme", SYNTAX, x.load(20));
            check.same("from the first on", word == 0x2020203b ? 7 : 4, x.errorOffset());
        }
    }

    private static void appendsUpToTheEnd() {
        check.says("Returns the new length of the buffer; -1 if it would exceed 700 bytes,"
            + " and the buffer is unchanged then.");
        ColorScheme x = new ColorScheme();
        String text = "scheme;role 1 2 3;  " + " ".repeat(660) + "   role 253 254 255;";
        Check.fill(x, text.substring(0, 660));
        check.same("680", 680, x.append(SPACES, SPACES, SPACES, SPACES, SPACES));
        Check.fill(x, text.substring(680));
        for (int i = 0; i < 3; i++) {
            check.same("beyond 700", -1, x.append(0x3b3b3b3b, 0x3b3b3b3b, i, -1, Integer.MIN_VALUE));
        }
        check.refuses("no byte more", IllegalArgumentException.class, () -> x.load(701));
        check.same("the text of 700 bytes", 0, x.load(700));
        check.same("its roles", 2, x.roleCount());
        check.same("its first bytes", 0x010203, x.colour(0, 0));
        check.same("its last bytes", 0xfdfeff, x.colour(1, 0));
        for (int length = 20; length <= 700; length += 20) {
            check.same("each new length", length, x.append(1, 2, 3, 4, 5));
        }
        check.same("beyond 700 again", -1, x.append(1, 2, 3, 4, 5));
    }

    private static void readsTheFirstBytes() {
        check.says("Reads the first bytes of the input buffer as a setup text.");
        String text = "scheme;role 1 2 34;;";
        int[] lengths = {16, 17, 18, 19, 20, 21};
        int[] due = {SYNTAX, SYNTAX, SYNTAX, 0, SYNTAX, SYNTAX};
        int[] offsets = {16, 17, 18, -1, 19, 19};
        for (int i = 0; i < due.length; i++) {
            ColorScheme x = new ColorScheme();
            Check.fill(x, text + "?");
            check.same("load(" + lengths[i] + ")", due[i], x.load(lengths[i]));
            check.same("its offset", offsets[i], x.errorOffset());
            check.same("its roles", due[i] == 0 ? 1 : 0, x.roleCount());
        }
        ColorScheme y = new ColorScheme();
        Check.fill(y, "scheme;role 1 2 34;;");
        check.same("a number ends with the text", SYNTAX, y.load(17));
        Check.fill(y, "scheme;role 1 2 399;");
        check.same("no digit behind the length counts", SYNTAX, y.load(17));
        check.same("at the length", 17, y.errorOffset());
        Check.fill(y, "scheme;roles");
        check.same("no letter behind the length counts", SYNTAX, y.load(11));
        check.same("at the length", 11, y.errorOffset());
    }

    private static void replacesAllData() {
        check.says("replaces all data by it");
        ColorScheme x = Check.loaded("scheme;role 9 9 9 dark 8 8 8 fixed;role 7 7 7;role 6 6 6;text 0 1 9;"
            + "distinct 2 1 4 77;floor 1000;");
        check.same("another text", 1, Check.load(x, "scheme;role 1 1 1;role 2 2 2 fixed;text 1 0 3;"));
        ColorScheme fresh = Check.loaded("scheme;role 1 1 1;role 2 2 2 fixed;text 1 0 3;");
        check.same("as if it were the first", State.shown(fresh), State.shown(x));
        check.same("no floor is left", 450, x.need(0, 1));
        check.same("a text without statements", 0, Check.load(x, "scheme;"));
        check.same("nothing is left", State.shown(Check.loaded("scheme;")), State.shown(x));
        check.same("one rule again", 1, Check.load(x, TWO + "distinct 0 1 0 5;"));
        check.same("it is distinct then", 2295, x.value(0, 0));
        check.same("and a text again", 1, Check.load(x, TWO + "text 0 1 5;"));
        check.same("it is a text then", 2100, x.value(0, 0));
    }

    private static void emptiesTheBuffer() {
        check.says("The input buffer is empty afterwards, also if the text has an error.");
        for (String text : new String[] {"scheme;", "?", "scheme;role 256", "scheme;floor (((((", TEN_ROLES + "role", ""}) {
            ColorScheme x = new ColorScheme();
            Check.fill(x, text + " ".repeat(40));
            x.load(text.length());
            check.refuses("one byte after " + text, IllegalArgumentException.class, () -> x.load(1));
            check.same("no byte after " + text, SYNTAX, x.load(0));
            check.same("the first length after " + text, 20, x.append(SPACES, SPACES, SPACES, SPACES, SPACES));
            check.same("only these bytes after " + text, SYNTAX, x.load(20));
            check.same("they are spaces", 20, x.errorOffset());
        }
    }

    private static void leavesAllElseAfterAnError() {
        check.says("An error leaves all other data unchanged.");
        String[] texts = {"", "?", "scheme;role 1 1 1;role 2 2 2;text 0 1 1;floor 900;!", "scheme;role 5 5 5;role 6 6 256",
            "scheme;floor 1;floor 2;", "scheme;role 4 4 4 fixed;floor (((((1", TEN_ROLES + "role 1 1 1;",
            TWELVE_RULES + "text"};
        for (String text : texts) {
            ColorScheme with = changed();
            ColorScheme without = changed();
            check.same("an error in " + text, true, Check.load(with, text) < 0);
            // Both have the same error offset then.
            check.same("the same error once more", true, Check.load(with, "scheme;?") == Check.load(without, "scheme;?"));
            check.same("all else after " + text, State.whole(without), State.whole(with));
        }
    }

    private static ColorScheme changed() {
        ColorScheme x = Check.loaded(TWO + "role 3 4 5 fixed;text 0 2 3;distinct 1 2 3 44;floor 200*size+scheme;");
        x.setColour(1, 0, 0x123456);
        x.shift(0, 1, -9);
        x.setFixed(0, true);
        x.undo();
        return x;
    }

    private static void readsNoText() {
        check.says("An empty text has a SYNTAX_ERROR.");
        ColorScheme x = new ColorScheme();
        check.same("of an empty buffer", SYNTAX, x.load(0));
        check.same("its offset", 0, x.errorOffset());
        Check.fill(x, "scheme;");
        check.same("of a buffer with a text", SYNTAX, x.load(0));
        check.same("its offset", 0, x.errorOffset());
        check.same("it is no change", -1, x.undo());
        check.rejects(SYNTAX, " ^");
        check.accepts("scheme;", 0);
    }

    private static void answersTheRules() {
        check.says("Returns the number of rules; or the error code of the first error.");
        for (int rules = 0; rules <= 12; rules++) {
            check.accepts(TWO + "distinct 1 0 4 9;".repeat(rules / 2) + "text 0 1 1;".repeat(rules - rules / 2), rules);
        }
        check.rejects(ColorScheme.SYNTAX_ERROR, TWO + "text 0 1 1;text 0 1^;role 256;");
        check.rejects(ColorScheme.OUT_OF_RANGE, TWO + "text 0 1 1;text 0 ^2 1;?");
        check.rejects(ColorScheme.TOO_MANY, TWELVE_RULES + "^text 0 2 1;");
        check.rejects(ColorScheme.TOO_DEEP, TWO + "text 0 1 1;floor ((((^(99999;");
    }

    private static void refusesLengths() {
        check.says("if length is negative or greater than the length of the buffer; the buffer is unchanged then");
        String text = "scheme;role 9 8 7;role 1 2 3;text 1 0 1;";
        for (int length : new int[] {-1, 41, 700, 701, Integer.MAX_VALUE, Integer.MIN_VALUE}) {
            ColorScheme x = new ColorScheme();
            Check.fill(x, text);
            check.refuses("load(" + length + ")", IllegalArgumentException.class, () -> x.load(length));
            check.same("no offset from load(" + length + ")", -1, x.errorOffset());
            check.same("no change by load(" + length + ")", -1, x.undo());
            check.same("the length stays", 60, x.append(SPACES, SPACES, SPACES, SPACES, SPACES));
            check.same("the text stays", 1, x.load(60));
            check.same("its first role", 0x090807, x.colour(0, 0));
        }
        int[] lengths = {0, 1, 39, 40, 41, 59, 60};
        Object refused = IllegalArgumentException.class;
        Object[] due = {SYNTAX, SYNTAX, SYNTAX, 1, refused, refused, refused};
        for (int i = 0; i < lengths.length; i++) {
            int length = lengths[i];
            ColorScheme x = new ColorScheme();
            Check.fill(x, text);
            check.answers("load(" + length + ") of 40", due[i], () -> x.load(length));
        }
    }

    private static void tellsTheOffset() {
        check.says("Returns the offset of the error found by the latest call of load that did not throw;"
            + " -1 if it found none or if there was no such call.");
        ColorScheme x = new ColorScheme();
        check.same("no call", -1, x.errorOffset());
        check.refuses("a call that throws", IllegalArgumentException.class, () -> x.load(1));
        check.same("no other call", -1, x.errorOffset());
        x.load(0);
        check.same("the least offset", 0, x.errorOffset());
        Check.load(x, "scheme;role 0 0 0 fixed;" + " ".repeat(676));
        check.same("none found", -1, x.errorOffset());
        Check.load(x, "scheme;" + " ".repeat(692) + "?");
        check.same("the last byte", 699, x.errorOffset());
        Check.load(x, "scheme" + " ".repeat(694));
        check.same("the greatest offset", 700, x.errorOffset());
        check.refuses("a call that throws", IllegalArgumentException.class, () -> x.load(-1));
        check.same("the latest that did not", 700, x.errorOffset());
        x.undo();
        x.swapSchemes();
        x.append(1, 2, 3, 4, 5);
        check.same("no other call counts", 700, x.errorOffset());
        x.load(20);
        check.same("the latest of several", 0, x.errorOffset());
        Check.load(x, "scheme;");
        check.same("none found again", -1, x.errorOffset());
    }

    private static void countsRolesAndRules() {
        check.says("Returns the number of roles. Returns the number of rules.");
        for (int roles = 0; roles <= 10; roles++) {
            ColorScheme x = Check.loaded("scheme;" + "role 5 5 5;".repeat(roles));
            check.same("roles", roles, x.roleCount());
            check.same("rules", 0, x.ruleCount());
        }
        for (int rules = 0; rules <= 12; rules++) {
            ColorScheme x = Check.loaded(TWO + "text 0 1 1;".repeat(rules));
            check.same("two roles", 2, x.roleCount());
            check.same("rules", rules, x.ruleCount());
        }
    }

    private static void startsWithoutRoles() {
        check.says("Before the first successful load there are no roles and rules.");
        ColorScheme x = new ColorScheme();
        check.same("a load with an error", SYNTAX, Check.load(x, TWO + "text 0 1 1;?"));
        check.same("roles", 0, x.roleCount());
        check.same("rules", 0, x.ruleCount());
        check.refuses("role 0", IndexOutOfBoundsException.class, () -> x.isFixed(0));
        check.refuses("rule 0", IndexOutOfBoundsException.class, () -> x.need(0, 0));
        check.same("the first successful load", 1, Check.load(x, TWO + "text 0 1 1;"));
        check.same("roles then", 2, x.roleCount());
        check.same("rules then", 1, x.ruleCount());
        check.same("undo", 0, x.undo());
        check.same("roles before it", 0, x.roleCount());
        check.same("rules before it", 0, x.ruleCount());
    }

    private static void readsLongTexts() {
        check.says("The setup text is read from an input buffer of at most 700 bytes.");
        check.accepts("scheme;" + " ".repeat(681) + "role 1 2 3;", 0);
        check.accepts("scheme;" + " ".repeat(682) + "role 1 2 3;", 0);
        check.rejects(SYNTAX, "scheme;" + " ".repeat(683) + "role 1 2 3^");
        check.rejects(RANGE, "scheme;" + " ".repeat(680) + "role 1 2 ^256;");
        check.rejects(DEEP, "scheme;floor (" + "1+".repeat(341) + "(((^(");
        check.rejects(MANY, TEN_ROLES + " ".repeat(579) + "^role");
    }

    private static void readsStatements() {
        check.says("setup = \"scheme\" \";\" { statement \";\" }");
        check.accepts("scheme;", 0);
        check.accepts(ONE, 0);
        check.accepts(TWO + "text 0 1 1;distinct 0 1 0 1;floor 1;", 2);
        check.rejects(SYNTAX, "scheme^");
        check.rejects(SYNTAX, "^;");
        check.rejects(SYNTAX, "^role 0 0 0;");
        check.rejects(SYNTAX, "scheme ^role 0 0 0;");
        check.rejects(SYNTAX, "scheme;^;");
        check.rejects(SYNTAX, "scheme;role 0 0 0^");
        check.rejects(SYNTAX, "scheme;role 0 0 0 ^role 0 0 0;");
        check.rejects(SYNTAX, ONE + "^;");
        check.rejects(SYNTAX, ONE + "^scheme;");
        for (String word : new String[] {"scheme", "dark", "fixed", "size", "(", "1", "texts", "tex", "rol", "roles",
            "distinc", "distincts", "floo", "floors"}) {
            check.rejects(SYNTAX, TWO + "^" + word + " 0 1 1 1;");
        }
    }

    private static void readsRoleParts() {
        check.says("\"role\" number number number [ \"dark\" number number number ] [ \"fixed\" ]");
        check.accepts("scheme;role 1 2 3;role 1 2 3 fixed;role 1 2 3 dark 4 5 6;role 1 2 3 dark 4 5 6 fixed;", 0);
        String role = "scheme;role 1 2 3 dark 4 5 6 fixed";
        for (String cut : new String[] {"scheme;role", "scheme;role 1", "scheme;role 1 2", "scheme;role 1 2 3 dark",
            "scheme;role 1 2 3 dark 4", "scheme;role 1 2 3 dark 4 5", "scheme;role 1 2 3 dark 4 5 6"}) {
            check.same("it is the beginning", true, role.startsWith(cut));
            check.rejects(SYNTAX, cut + "^");
            check.rejects(SYNTAX, cut + " ^+;");
        }
        check.rejects(SYNTAX, "scheme;role 1 2 3 ^4;");
        check.rejects(SYNTAX, "scheme;role 1 2 3 dark 4 5 6 ^7;");
        check.rejects(SYNTAX, "scheme;role 1 2 3 dark 4 5 6 ^dark 4 5 6;");
        check.rejects(SYNTAX, "scheme;role 1 2 3 dark ^fixed;");
        check.rejects(SYNTAX, "scheme;role 1 2 3 fixed ^dark 4 5 6;");
        check.rejects(SYNTAX, "scheme;role 1 2 3 fixed ^fixed;");
        check.rejects(SYNTAX, "scheme;role 1 2 ^fixed;");
        check.rejects(SYNTAX, "scheme;role 1 2 ^dark 4 5 6;");
    }

    private static void readsSums() {
        check.says("sum = term { ( \"+\" | \"-\" ) term }");
        check.accepts("scheme;floor 1;", 0);
        check.accepts("scheme;floor 1+2-3+4-5;", 0);
        check.rejects(SYNTAX, "scheme;floor^;");
        check.rejects(SYNTAX, "scheme;floor 1+^;");
        check.rejects(SYNTAX, "scheme;floor 1-^;");
        check.rejects(SYNTAX, "scheme;floor ^+1;");
        check.rejects(SYNTAX, "scheme;floor ^-1;");
        check.rejects(SYNTAX, "scheme;floor 1+^-1;");
        check.rejects(SYNTAX, "scheme;floor 1 ^1;");
        check.rejects(SYNTAX, "scheme;floor 1^,1;");
    }

    private static void readsTerms() {
        check.says("term = factor { ( \"*\" | \"/\" ) factor }");
        check.accepts("scheme;floor 1*2/3*4/5;", 0);
        check.rejects(SYNTAX, "scheme;floor 1*^;");
        check.rejects(SYNTAX, "scheme;floor 1/^;");
        check.rejects(SYNTAX, "scheme;floor ^*1;");
        check.rejects(SYNTAX, "scheme;floor ^/1;");
        check.rejects(SYNTAX, "scheme;floor 1*^/1;");
        check.rejects(SYNTAX, "scheme;floor 1*^+1;");
        check.rejects(SYNTAX, "scheme;floor 1^%1;");
    }

    private static void readsFactors() {
        check.says("factor = number | \"size\" | \"scheme\" | \"(\" sum \")\"");
        check.accepts("scheme;floor 5*size*scheme*(5);", 0);
        check.rejects(SYNTAX, "scheme;floor (^);");
        check.rejects(SYNTAX, "scheme;floor (1^;");
        check.rejects(SYNTAX, "scheme;floor (1^");
        check.rejects(SYNTAX, "scheme;floor ^);");
        check.rejects(SYNTAX, "scheme;floor 1^);");
        check.rejects(SYNTAX, "scheme;floor (1)^);");
        check.rejects(SYNTAX, "scheme;floor (1)^(1);");
        check.rejects(SYNTAX, "scheme;floor size^(1);");
        for (String word : new String[] {"role", "dark", "fixed", "text", "distinct", "floor", "sizes", "siz",
            "schemes", "schem"}) {
            check.rejects(SYNTAX, "scheme;floor 1+^" + word + ";");
        }
    }

    private static void readsNumbersOfAnyLength() {
        check.says("A number is a run of decimal digits, of any length (leading zeros do not matter)");
        check.accepts("scheme;role 0 00 " + "0".repeat(660) + ";", 0);
        check.accepts("scheme;role " + "0".repeat(640) + "255 0 255;", 0);
        check.accepts(TWO + "text 00 01 009;distinct 000 0001 00004 000002295;floor 0000009999;", 2);
        check.same("its value", 255, Check.loaded("scheme;role 0 0 " + "0".repeat(600) + "255;").colour(0, 0));
        check.rejects(RANGE, "scheme;role 0 0 ^" + "9".repeat(683) + ";");
        check.rejects(RANGE, "scheme;role 0 0 ^1" + "0".repeat(670) + ";");
        // Numbers that come back into the range if an int, a long or a byte holds them.
        for (String number : new String[] {"256", "65536", "2147483648", "4294967296", "4294967297", "8589934592",
            "9223372036854775808", "18446744073709551616", "18446744073709551617",
            "340282366920938463463374607431768211456"}) {
            check.rejects(RANGE, "scheme;role ^" + number + " 0 0;");
            check.rejects(RANGE, TWO + "text 0 1 ^" + number + ";");
            check.rejects(RANGE, TWO + "text 0 ^" + number + " 1;");
            check.rejects(RANGE, TWO + "distinct 0 1 0 ^" + (number.length() < 4 ? "2296" : number) + ";");
            check.rejects(RANGE, "scheme;floor ^" + (number.length() < 4 ? "10000" : number) + ";");
        }
    }

    private static void readsWords() {
        check.says("a word is a run of the letters a to z");
        // The bytes next to a and z, and the capital letters, belong to no word.
        check.rejects(SYNTAX, "scheme^`;");
        check.rejects(SYNTAX, "scheme^{;");
        check.rejects(SYNTAX, "scheme^Z;");
        check.rejects(SYNTAX, "^`scheme;");
        check.rejects(SYNTAX, "^{scheme;");
        check.rejects(SYNTAX, "^SCHEME;");
        check.rejects(SYNTAX, "^Scheme;");
        check.rejects(SYNTAX, "scheme;role 0 0 0 fixed^`;");
        check.rejects(SYNTAX, "scheme;role 0 0 0 fixed^{;");
        check.rejects(SYNTAX, "scheme;role 0 0 0 fixed^\u00e1;");
        check.rejects(SYNTAX, "^schemea;");
        check.rejects(SYNTAX, "^schemez;");
        // A word differs from another one in its first letter, too.
        check.rejects(SYNTAX, "^xcheme;");
        check.rejects(SYNTAX, "scheme;^xole 0 0 0;");
        check.rejects(SYNTAX, "scheme;role 0 0 0 ^bark 0 0 0;");
        check.rejects(SYNTAX, "scheme;role 0 0 0 ^mixed;");
        check.rejects(SYNTAX, TWO + "^next 0 1 1;");
        check.rejects(SYNTAX, TWO + "^mistinct 0 1 0 5;");
        check.rejects(SYNTAX, "scheme;^xloor 1;");
        check.rejects(SYNTAX, "scheme;floor ^xize;");
        check.rejects(SYNTAX, "scheme;floor ^xcheme;");
        // Letters with their high bit.
        check.rejects(SYNTAX, "^\u00f3cheme;");
        check.rejects(SYNTAX, "^schem\u00e5;");
    }

    private static void readsDigits() {
        check.says("a run of decimal digits: 0 to 9");
        for (char digit = '0'; digit <= '9'; digit++) {
            ColorScheme x = Check.loaded("scheme;role 0 0 " + digit + ";role 0 0 1" + digit + ";");
            check.same("the digit " + digit, digit - '0', x.colour(0, 0));
            check.same("behind a one", 10 + digit - '0', x.colour(1, 0));
        }
        // The bytes next to 0 and 9 belong to no number.
        check.rejects(SYNTAX, "scheme;role 0 0 1^/;");
        check.rejects(SYNTAX, "scheme;role 0 0 1^:;");
        check.rejects(SYNTAX, "scheme;role 0 0 ^/;");
        check.rejects(SYNTAX, "scheme;role 0 0 ^:;");
        check.rejects(SYNTAX, "scheme;role 0 0 ^\u00b1;");
        check.rejects(SYNTAX, "scheme;role 0 0 1^\u00b1;");
    }

    private static void readsLongRuns() {
        check.says("Each run is as long as possible.");
        check.rejects(SYNTAX, "^schemerole 0 0 0;");
        check.rejects(SYNTAX, "scheme;role 0 0 0 ^darkfixed 1 1 1;");
        check.rejects(SYNTAX, "scheme;role 0 0 0 ^fixedfixed;");
        check.rejects(SYNTAX, "scheme;^floorsize;");
        check.rejects(SYNTAX, "scheme;floor ^sizescheme;");
        check.rejects(RANGE, "scheme;role ^256;");
        check.rejects(RANGE, "scheme;role ^1000 0;");
        check.rejects(SYNTAX, "scheme;role 255 255^;");
        check.rejects(RANGE, "scheme;floor ^99990;");
        check.rejects(SYNTAX, "scheme;^ro le 0 0 0;");
        check.rejects(SYNTAX, "^sch eme;");
    }

    private static void readsSpaces() {
        check.says("Spaces (byte 32) may precede any token and may follow the last one");
        String[] tokens = {"scheme", ";", "role", "1", "2", "3", "dark", "4", "5", "6", "fixed", ";", "role", "7", "8", "9", ";",
            "text", "0", "1", "9", ";", "distinct", "1", "0", "4", "2295", ";",
            "floor", "(", "1", "+", "size", ")", "*", "scheme", "-", "2", "/", "3", ";"};
        for (int wide = 0; wide <= tokens.length; wide++) {
            StringBuilder text = new StringBuilder();
            for (int i = 0; i < tokens.length; i++) {
                boolean both = i > 0 && isRun(tokens[i]) && isRun(tokens[i - 1]);
                text.append(i == wide ? "     " : both ? " " : "").append(tokens[i]);
            }
            check.accepts(text.append(wide == tokens.length ? "     " : "").toString(), 2);
        }
        check.accepts(String.join(" ", tokens) + " ", 2);
        check.accepts("  " + String.join("  ", tokens) + "  ", 2);
        check.rejects(SYNTAX, "     ^");
        check.rejects(SYNTAX, "scheme;role 2 5 ^;");
        check.rejects(SYNTAX, "scheme;role 2 5 5 ^5;");
    }

    private static boolean isRun(String token) {
        return Character.isLetterOrDigit(token.charAt(0));
    }

    private static void readsNoSpaces() {
        check.says("a word and a number side by side need none between them");
        check.accepts("scheme;role1 2 3;role1 2 3dark4 5 6;role1 2 3fixed;role1 2 3dark4 5 6fixed;"
            + "text0 1 1;distinct0 1 0 1;floor9;", 2);
        check.rejects(SYNTAX, "scheme;floor 9^size;");
        check.rejects(SYNTAX, "scheme;floor size^9;");
        check.rejects(SYNTAX, "scheme^9;");
        ColorScheme x = Check.loaded("scheme;role1 2 3dark4 5 6fixed;");
        check.same("light", 0x010203, x.colour(0, 0));
        check.same("dark", 0x040506, x.colour(0, 1));
        check.same("fixed", true, x.isFixed(0));
    }

    private static void readsNoOtherBytes() {
        check.says("No other byte separates tokens.");
        for (int b = 0; b < 256; b++) {
            boolean digit = b >= '0' && b <= '9';
            boolean letter = b >= 'a' && b <= 'z';
            if (b == ' ') {
                check.accepts("scheme;role 1 1" + (char) b + "1;", 0);
            } else if (!digit && b != '^') {
                check.rejects(SYNTAX, "scheme;role 1 1^" + (char) b + "1;");
            }
            if (b != ' ' && b != '^' && !letter) {
                check.rejects(SYNTAX, "scheme;^" + (char) b + "role 1 1 1;");
                check.rejects(SYNTAX, "^" + (char) b + "scheme;");
                check.rejects(SYNTAX, "scheme;role 1 1 1;^" + (char) b);
            }
        }
    }

    private static void takesTenRoles() {
        check.says("There are at most 10 roles.");
        check.accepts("scheme;" + "role 0 0 0;".repeat(9), 0);
        check.accepts(TEN_ROLES, 0);
        check.rejects(MANY, TEN_ROLES + "^role 0 0 0;");
        check.rejects(MANY, TEN_ROLES + "^role 0 0 0;role 0 0 0;");
        ColorScheme x = Check.loaded(TEN_ROLES + "text 9 8 1;");
        check.same("ten", 10, x.roleCount());
        check.same("the last one", 0xffffff, x.colour(9, 1));
        check.refuses("no eleventh", IndexOutOfBoundsException.class, () -> x.colour(10, 1));
        check.rejects(MANY, TEN_ROLES + "text 9 8 1;".repeat(12) + "^role 0 0 0;");
        for (int rules = 0; rules <= 12; rules++) {
            ColorScheme y = Check.loaded(TWO + "text 0 1 1;".repeat(rules) + "role 0 0 0;".repeat(8));
            check.same("ten, eight of them after the rules", 10, y.roleCount());
            check.same("the rules", rules, y.ruleCount());
        }
    }

    private static void takesTwelveRules() {
        check.says("There are at most 12 rules.");
        check.accepts(TWO + "text 0 1 1;".repeat(11), 11);
        check.accepts(TWO + "distinct 0 1 0 1;".repeat(11), 11);
        check.accepts(TWO + "text 0 1 1;".repeat(12), 12);
        check.accepts(TWO + "distinct 0 1 0 1;".repeat(12), 12);
        check.accepts(TWELVE_RULES, 12);
        check.rejects(MANY, TWO + "text 0 1 1;".repeat(12) + "^text 0 1 1;");
        check.rejects(MANY, TWO + "distinct 0 1 0 1;".repeat(12) + "^distinct 0 1 0 1;");
        check.rejects(MANY, TWELVE_RULES + "^text 0 1 1;");
        check.rejects(MANY, TWELVE_RULES + "^distinct 0 1 0 1;");
        check.accepts(TWELVE_RULES + "role 0 0 0;floor 1;", 12);
    }

    private static void takesChannels() {
        check.says("A colour has the channels r, g and b (0 to 255 each).");
        for (int place = 0; place < 6; place++) {
            int[] shifts = {16, 8, 0, 16, 8, 0};
            for (int channel : new int[] {0, 1, 254, 255}) {
                ColorScheme x = Check.loaded(roleWith(place, "" + channel));
                int due = 0x070707 & ~(255 << shifts[place]) | channel << shifts[place];
                check.same("channel " + channel + " at " + place, due, x.colour(0, place / 3));
            }
            for (String channel : new String[] {"256", "257", "0256", "999", "1000", "25500"}) {
                check.rejects(RANGE, roleWith(place, "^" + channel));
            }
            check.rejects(SYNTAX, roleWith(place, "^-1"));
        }
    }

    private static String roleWith(int place, String channel) {
        StringBuilder text = new StringBuilder("scheme;role");
        for (int i = 0; i < 6; i++) {
            text.append(i == 3 ? " dark " : " ").append(i == place ? channel : "7");
        }
        return text.append(";").toString();
    }

    private static void makesTheDarkColour() {
        check.says("without dark, each channel in the dark scheme is 255 minus the channel in the light scheme");
        ColorScheme x = Check.loaded("scheme;role 0 0 0;role 255 255 255;role 0 255 1;role 254 127 128;role 255 0 9 fixed;"
            + "role 1 2 3 dark 1 2 3;role 1 2 3 dark 0 0 0;");
        int[] due = {0xffffff, 0, 0xff00fe, 0x01807f, 0x00fff6, 0x010203, 0};
        for (int role = 0; role < due.length; role++) {
            check.same("dark colour of role " + role, due[role], x.colour(role, 1));
        }
    }

    private static void takesTextNumbers() {
        check.says("A text rule has a size (1 to 9).");
        check.rejects(RANGE, TWO + "text 0 1 ^0;");
        check.rejects(RANGE, TWO + "text 0 1 ^10;");
        check.rejects(RANGE, TWO + "text 0 1 ^11;");
        check.rejects(RANGE, TWO + "text 0 1 ^00;");
        for (int size = 1; size <= 9; size++) {
            ColorScheme x = Check.loaded(TWO + "floor 1000+size;text 0 1 " + size + ";");
            check.same("the size " + size, 1000 + size, x.need(0, 0));
        }
        check.rejects(SYNTAX, TWO + "text 0 1^;");
        check.rejects(SYNTAX, TWO + "text 0 1 9 ^9;");
    }

    private static void takesDistinctNumbers() {
        check.says("A distinct rule has a sight and a need (1 to 2295).");
        for (int sight = 0; sight <= 4; sight++) {
            check.accepts(TWO + "distinct 0 1 " + sight + " 9;", 1);
        }
        check.rejects(RANGE, TWO + "distinct 0 1 ^5 9;");
        check.rejects(RANGE, TWO + "distinct 0 1 ^6 9;");
        check.rejects(RANGE, TWO + "distinct 0 1 ^10 9;");
        for (int need : new int[] {1, 2, 2294, 2295}) {
            ColorScheme x = Check.loaded(TWO + "distinct 0 1 3 " + need + ";");
            check.same("the need " + need, need, x.need(0, 0));
            check.same("in dark", need, x.need(0, 1));
        }
        check.rejects(RANGE, TWO + "distinct 0 1 4 ^0;");
        check.rejects(RANGE, TWO + "distinct 0 1 4 ^2296;");
        check.rejects(RANGE, TWO + "distinct 0 1 4 ^2297;");
        check.rejects(SYNTAX, TWO + "distinct 0 1 4^;");
        check.rejects(SYNTAX, TWO + "distinct 0 1 4 9 ^9;");
    }

    private static void wantsRolesBefore() {
        check.says("The roles must be declared before.");
        String[] starts = {"text ", "distinct "};
        String[] ends = {" 1;", " 0 1;"};
        for (int i = 0; i < 2; i++) {
            check.rejects(RANGE, "scheme;" + starts[i] + "^0 1" + ends[i]);
            check.rejects(RANGE, "scheme;" + starts[i] + "^0 1" + ends[i] + "role 0 0 0;role 0 0 0;");
            check.rejects(RANGE, ONE + starts[i] + "0 ^1" + ends[i] + "role 0 0 0;");
            check.rejects(RANGE, ONE + starts[i] + "^1 0" + ends[i] + "role 0 0 0;");
            check.rejects(RANGE, TWO + starts[i] + "^2 0" + ends[i]);
            check.rejects(RANGE, TWO + starts[i] + "0 ^2" + ends[i]);
            check.rejects(RANGE, TWO + starts[i] + "1 ^3" + ends[i]);
            check.accepts(TWO + starts[i] + "0 1" + ends[i], 1);
            check.accepts(TWO + starts[i] + "1 0" + ends[i], 1);
            check.accepts(TWO + starts[i] + "1 0" + ends[i] + "role 0 0 0;" + starts[i] + "2 1" + ends[i], 2);
            check.accepts(TEN_ROLES + starts[i] + "9 0" + ends[i] + starts[i] + "0 9" + ends[i], 2);
            check.rejects(RANGE, TEN_ROLES + starts[i] + "^10 0" + ends[i]);
            check.rejects(RANGE, TEN_ROLES + starts[i] + "9 ^10" + ends[i]);
        }
    }

    private static void wantsDifferentRoles() {
        check.says("this includes the second role of a rule if it is the same as the first one");
        check.rejects(RANGE, TWO + "text 0 ^0 1;");
        check.rejects(RANGE, TWO + "text 1 ^1 1;");
        check.rejects(RANGE, TWO + "distinct 0 ^0 0 1;");
        check.rejects(RANGE, TWO + "distinct 1 ^1 0 1;");
        check.rejects(RANGE, TWO + "distinct 1 ^0001 9 9999;");
        check.rejects(RANGE, TWO + "text 001 ^1 0;");
        check.rejects(RANGE, TEN_ROLES + "text 9 ^9 1;");
        check.rejects(RANGE, TWO + "text 0 ^0");
        check.rejects(RANGE, ONE + "text ^1 1 1;");
        check.accepts(TWO + "text 0 1 1;text 1 0 1;distinct 0 1 1 1;", 3);
    }

    private static void takesFactors() {
        check.says("A number as a factor is 0 to 9999.");
        for (String number : new String[] {"0", "1", "9998", "9999", "09999", "000000000000000000000"}) {
            check.accepts("scheme;floor " + number + ";", 0);
            check.accepts("scheme;floor 1+2*(" + number + ");", 0);
        }
        for (String number : new String[] {"10000", "10001", "010000", "99999", "1000000", "1000001", "2147483647"}) {
            check.rejects(RANGE, "scheme;floor ^" + number + ";");
            check.rejects(RANGE, "scheme;floor 1+2*(^" + number + ");");
            check.rejects(RANGE, "scheme;floor 1/^" + number + ";");
        }
        check.same("the greatest factor", 999, Check.loaded(TWO + "floor 9999/10;text 0 1 1;").need(0, 0));
        check.same("the smallest factor", 500, Check.loaded(TWO + "floor 500+0;text 0 1 1;").need(0, 0));
    }

    private static void nestsFour() {
        check.says("Parentheses nest at most 4 deep.");
        check.accepts("scheme;floor (((1)));", 0);
        check.accepts("scheme;floor ((((1))));", 0);
        check.rejects(DEEP, "scheme;floor ((((^(1)))));");
        check.rejects(DEEP, "scheme;floor ((((^((1))))));");
        check.accepts("scheme;floor ((((1))))*((((2))))-((((3))));", 0);
        check.accepts("scheme;floor (1+(2*(3-(4)/(5))+(6))*(7));", 0);
        check.accepts("scheme;floor " + "(1)+".repeat(20) + "(2);", 0);
        check.accepts("scheme;floor (((" + "(1)*".repeat(20) + "(2))));", 0);
        check.rejects(DEEP, "scheme;floor (((" + "(1)*".repeat(20) + "(^(2)))));");
        check.same("four deep", 500, Check.loaded(TWO + "floor ((((99+size)*2)-50)*3)+50;text 0 1 1;").need(0, 0));
    }

    private static void takesOneFloor() {
        check.says("The statement floor may occur once.");
        check.accepts(TWO, 0);
        check.accepts(TWO + "floor 1;", 0);
        check.rejects(SYNTAX, TWO + "floor 1;^floor 1;");
        check.rejects(SYNTAX, TWO + "floor 1;text 0 1 1;role 0 0 0;  ^floor 1;");
        ColorScheme x = new ColorScheme();
        for (int i = 0; i < 3; i++) {
            check.same("once in each text", 1, Check.load(x, TWO + "floor 700;text 0 1 1;"));
        }
        check.same("a floor and an error", SYNTAX, Check.load(x, "scheme;floor 1;?"));
        check.same("once in the next text", 1, Check.load(x, TWO + "floor 800;text 0 1 1;"));
        check.same("its need", 800, x.need(0, 0));
    }

    private static void findsTheFirstError() {
        check.says("The first error in the text is the one with the smallest offset.");
        check.rejects(RANGE, "scheme;role ^256 ?");
        check.rejects(SYNTAX, "scheme;role ^? 256");
        check.rejects(RANGE, "scheme;role 0 ^300 400;" + "role 0 0 0;".repeat(11));
        check.rejects(MANY, TEN_ROLES + "^role 256 0 0;?");
        check.rejects(MANY, TWELVE_RULES + "^text 0 0 0;");
        check.rejects(RANGE, TWELVE_RULES + "role 0 0 ^256;text 0 1 1;");
        check.rejects(DEEP, "scheme;floor ((((^(99999");
        check.rejects(RANGE, "scheme;floor ((((^99999+(1");
        check.rejects(SYNTAX, "scheme;floor 1;^floor (((((1");
        check.rejects(RANGE, TWO + "text ^2 2 0;");
        check.rejects(RANGE, TWO + "text 0 ^0 0");
        check.rejects(RANGE, TWO + "text 0 1 ^0 0");
        check.rejects(RANGE, TWO + "distinct 0 1 ^5 0");
    }

    private static void ordersKindsOfErrors() {
        check.says("If several kinds of error have the same offset, the first one in this list counts");
        // Syntax before range: the number is too great, but none is allowed here.
        check.rejects(SYNTAX, "scheme;role 0 0 0 ^256;");
        check.rejects(SYNTAX, "scheme;^99999;");
        check.rejects(SYNTAX, "^256");
        check.rejects(SYNTAX, TWO + "text 0 1 1 ^99999;");
        check.rejects(SYNTAX, TWO + "distinct 0 1 0 1 ^2296;");
        check.rejects(SYNTAX, "scheme;floor 1 ^10000;");
        check.rejects(SYNTAX, "scheme;floor (1)^10000;");
        // Syntax before too many: a statement beyond the maximum where none may begin.
        check.rejects(SYNTAX, TEN_ROLES.substring(0, TEN_ROLES.length() - 1) + " ^role 0 0 0;");
        check.rejects(SYNTAX, TWELVE_RULES.substring(0, TWELVE_RULES.length() - 1) + " ^text 0 1 1;");
        check.rejects(SYNTAX, TWELVE_RULES.substring(0, TWELVE_RULES.length() - 1) + " ^distinct 0 1 0 1;");
        check.rejects(SYNTAX, TEN_ROLES + "^roles 0 0 0;");
        // Syntax before too deep: a fifth parenthesis where none may open.
        check.rejects(SYNTAX, "scheme;floor ((((1^(1)))));");
        check.rejects(SYNTAX, "scheme;floor ((((size^(");
        check.rejects(SYNTAX, "scheme;floor ((((1)^((");
    }

    private static void placesSyntaxErrors() {
        check.says("a token or byte that the grammar does not allow here, at its first byte");
        check.rejects(SYNTAX, "   ^role;");
        check.rejects(SYNTAX, "scheme   ^scheme;");
        check.rejects(SYNTAX, "scheme;   ^12345;");
        check.rejects(SYNTAX, "scheme;role 1   ^fixed 2;");
        check.rejects(SYNTAX, "scheme;role 1 2 3   ^fixes;");
        check.rejects(SYNTAX, "scheme;floor 12   ^345;");
        check.rejects(SYNTAX, "scheme;floor (12   ^;");
        check.rejects(SYNTAX, "scheme;role 1 2 3;   ^\u0000");
    }

    private static void placesEndsOfText() {
        check.says("the end of the text, at its length, if the text ends too early");
        check.rejects(SYNTAX, "^");
        check.rejects(SYNTAX, "scheme^");
        check.rejects(SYNTAX, "scheme     ^");
        check.rejects(SYNTAX, "scheme;role^");
        check.rejects(SYNTAX, "scheme;role 0 0 0    ^");
        check.rejects(SYNTAX, TWO + "text 0 1 ^");
        check.rejects(SYNTAX, TWO + "text 0 1 1^");
        check.rejects(SYNTAX, TWO + "distinct 0 1 0  ^");
        check.rejects(SYNTAX, "scheme;floor^");
        check.rejects(SYNTAX, "scheme;floor 1+^");
        check.rejects(SYNTAX, "scheme;floor ((((1  ^");
        check.accepts("scheme;     ", 0);
        check.accepts(ONE + "     ", 0);
    }

    private static void placesSecondFloors() {
        check.says("a second floor, at its first letter");
        check.rejects(SYNTAX, "scheme;floor 1;   ^floor");
        check.rejects(SYNTAX, "scheme;floor 1;^floor 99999;");
        check.rejects(SYNTAX, "scheme;floor 1;^floor?");
        check.rejects(SYNTAX, "scheme;floor 1 ^floor 1;");
        check.rejects(SYNTAX, "scheme;floor ^floor 1;");
    }

    private static void placesRangeErrors() {
        check.says("a number outside its range, at its first digit");
        check.rejects(RANGE, "scheme;role    ^000256 0 0;");
        check.rejects(RANGE, "scheme;role^256 0 0;");
        check.rejects(RANGE, "scheme;role 0 0 0dark^256 0 0;");
        check.rejects(RANGE, TWO + "text    ^0002 0 1;");
        check.rejects(RANGE, TWO + "text 0    ^0000 1;");
        check.rejects(RANGE, TWO + "text 0 1    ^000;");
        check.rejects(RANGE, TWO + "distinct 0 1 0    ^002296;");
        check.rejects(RANGE, "scheme;floor 1+   ^010000;");
        check.rejects(RANGE, "scheme;role 0 0 ^256");
    }

    private static void placesTooMany() {
        check.says("a role or rule beyond the maximum number, at the first letter of its statement");
        check.rejects(MANY, TEN_ROLES + "    ^role 0 0 0;");
        check.rejects(MANY, TEN_ROLES + "^role");
        check.rejects(MANY, TEN_ROLES + "^role?");
        check.rejects(MANY, TWELVE_RULES + "    ^text 0 1 1;");
        check.rejects(MANY, TWELVE_RULES + "^distinct");
        check.rejects(MANY, TWELVE_RULES + "floor 1;   ^distinct?");
        check.rejects(MANY, TWELVE_RULES + "role 0 0 0;^text 2 1 1;");
    }

    private static void placesTooDeep() {
        check.says("an opening parenthesis inside 4 others, at that parenthesis");
        check.rejects(DEEP, "scheme;floor   (  (  (  (   ^(");
        check.rejects(DEEP, "scheme;floor 1+(2*(3-(4/(5+   ^(6");
        check.rejects(DEEP, "scheme;floor ((((1))))+((((^(1)))));");
        check.rejects(DEEP, "scheme;floor (((1)+((^(1)))));");
    }
}
