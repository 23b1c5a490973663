/** Promises 1 to 6: a new object, append, load with its errors, errorOffset, roleCount, ruleCount. */
public final class SetupTest {
    private static final Check check = new Check();
    private static final String TWO = "scheme;role 0 0 0;role 255 255 255;";

    public static void main(String[] args) {
        newObject();
        appendCounts();
        appendOrdersBytes();
        loadRefuses();
        loadEmptiesTheBuffer();
        loadReadsTheLengthAlone();
        loadReplaces();
        errorOffsets();
        counts();
        goodTexts();
        syntaxErrors();
        rangeErrors();
        tooMany();
        tooDeep();
        check.end("SetupTest");
    }

    private static void newObject() {
        ColorScheme x = new ColorScheme();
        check.same("roles at first", 0, x.roleCount());
        check.same("rules at first", 0, x.ruleCount());
        check.same("error offset at first", -1, x.errorOffset());
        check.same("violations at first", 0, x.violations());
        check.same("checksum at first", 0L, x.checksum());
        check.same("undo at first", -1, x.undo());
        check.refuses("the buffer at first", IllegalArgumentException.class, () -> x.load(1));
        check.same("first append", 20, x.append(0, 0, 0, 0, 0));
    }

    private static void appendCounts() {
        ColorScheme x = new ColorScheme();
        Check.fill(x, "scheme;role 1 2 3;  ");
        for (int length = 40; length <= 700; length += 20) {
            check.same("append", length, x.append(538976288, 538976288, 538976288, 538976288, 538976288));
        }
        check.same("append beyond 700", -1, x.append(1, 2, 3, 4, 5));
        check.same("append beyond 700 again", -1, x.append(-1, -1, -1, -1, -1));
        check.refuses("the buffer after it", IllegalArgumentException.class, () -> x.load(701));
        check.same("the text after it", 0, x.load(700));
        check.same("its role", 66051, x.colour(0, 0));
        check.same("append after load", 20, x.append(0, 0, 0, 0, 0));
    }

    private static void appendOrdersBytes() {
        ColorScheme x = new ColorScheme();
        // "sche" "me;r" "ole " "1 2 " "3 ; "
        x.append(0x73636865, 0x6d653b72, 0x6f6c6520, 0x31203220, 0x33203b20);
        check.same("most significant byte first", 0, x.load(20));
        check.same("its colour", 66051, x.colour(0, 0));
        x.append(0x73636865, 0x6d653bff, 0, 0, 0);
        check.same("a byte over 127", -2, x.load(8));
        check.same("its offset", 7, x.errorOffset());
        x.append(0xf3e3e8e5, 0xede53b20, 0, 0, 0);
        check.same("letters with the high bit", -2, x.load(8));
        check.same("their offset", 0, x.errorOffset());
    }

    private static void loadRefuses() {
        ColorScheme x = new ColorScheme();
        check.refuses("load(-1)", IllegalArgumentException.class, () -> x.load(-1));
        check.refuses("load(1) of nothing", IllegalArgumentException.class, () -> x.load(1));
        Check.fill(x, "scheme;");
        check.refuses("load(21) of 20", IllegalArgumentException.class, () -> x.load(21));
        check.refuses("load(most)", IllegalArgumentException.class, () -> x.load(Integer.MAX_VALUE));
        check.refuses("load(least)", IllegalArgumentException.class, () -> x.load(Integer.MIN_VALUE));
        check.same("no error offset from them", -1, x.errorOffset());
        check.same("no change from them", -1, x.undo());
        check.same("the buffer after them", 0, x.load(20));
    }

    private static void loadEmptiesTheBuffer() {
        ColorScheme x = new ColorScheme();
        check.same("load of 7 of 20", 0, Check.load(x, "scheme;"));
        check.refuses("after success", IllegalArgumentException.class, () -> x.load(1));
        check.same("load with an error", -2, Check.load(x, "skeme;"));
        check.refuses("after an error", IllegalArgumentException.class, () -> x.load(1));
        check.same("load(0)", -2, x.load(0));
        check.same("offset of load(0)", 0, x.errorOffset());
        Check.fill(x, "scheme;");
        check.same("load(0) with a buffer", -2, x.load(0));
        check.refuses("after load(0)", IllegalArgumentException.class, () -> x.load(1));
    }

    private static void loadReadsTheLengthAlone() {
        ColorScheme x = new ColorScheme();
        Check.fill(x, "scheme;role 0 0 2567");
        check.same("a number is cut off", -2, x.load(18));
        check.same("its offset", 18, x.errorOffset());
        Check.fill(x, "scheme;roles");
        check.same("a word is cut off", -2, x.load(11));
        check.same("its offset", 11, x.errorOffset());
        Check.fill(x, "scheme;#");
        check.same("what comes after does not matter", 0, x.load(7));
        check.same("no offset", -1, x.errorOffset());
    }

    private static void loadReplaces() {
        ColorScheme x = Check.loaded(TWO + "text 0 1 1;text 1 0 2;");
        long before = x.checksum();
        check.same("an error", -2, Check.load(x, TWO + "role 1 2 3;distinct 0 1 0 5;floor 1;!"));
        check.same("roles after an error", 2, x.roleCount());
        check.same("rules after an error", 2, x.ruleCount());
        check.same("need after an error", 450, x.need(0, 0));
        check.same("data after an error", before, x.checksum());
        check.same("one change up to here", 0, x.undo());
        Check.load(x, TWO + "text 0 1 1;floor 300;");
        check.same("another text", 0, Check.load(x, "scheme;role 9 9 9 fixed;"));
        check.same("roles then", 1, x.roleCount());
        check.same("rules then", 0, x.ruleCount());
        check.same("fixed then", true, x.isFixed(0));
        check.same("no rules left", 9999, x.smallestMargin(0));
        Check.load(x, TWO + "text 0 1 1;");
        check.same("no floor left", 450, x.need(0, 0));
        check.same("not fixed any more", false, x.isFixed(0));
    }

    private static void errorOffsets() {
        ColorScheme x = new ColorScheme();
        Check.load(x, "scheme;role 256 0 0;");
        check.same("after an error", 12, x.errorOffset());
        check.refuses("a refused load", IllegalArgumentException.class, () -> x.load(5));
        check.same("after a refused load", 12, x.errorOffset());
        Check.load(x, "scheme");
        check.same("after another error", 6, x.errorOffset());
        Check.load(x, "scheme;");
        check.same("after success", -1, x.errorOffset());
        x.undo();
        check.same("after undo", -1, x.errorOffset());
        Check.load(x, "scheme;x");
        x.swapSchemes();
        x.undo();
        check.same("other calls leave it", 7, x.errorOffset());
    }

    private static void counts() {
        ColorScheme x = Check.loaded(TWO + "role 1 2 3;distinct 0 1 0 5;text 2 1 3;text 0 2 1;distinct 2 0 4 9;");
        check.same("roleCount", 3, x.roleCount());
        check.same("ruleCount", 4, x.ruleCount());
        check.same("load answers the rules", 1, Check.load(x, TWO + "distinct 1 0 2 2295;"));
        check.same("roleCount then", 2, x.roleCount());
        check.same("ruleCount then", 1, x.ruleCount());
    }

    private static void goodTexts() {
        check.accepts("scheme;", 0);
        check.accepts("   scheme   ;   ", 0);
        check.accepts("scheme;role0 0 0;", 0);
        check.accepts("scheme;role0 0 0dark1 2 3fixed;role 0 0 0 fixed;role 0 0 0 dark 1 1 1;", 0);
        check.accepts("scheme;role 255 255 255 dark 255 255 255;", 0);
        check.accepts("scheme;role 000000000000000000000255 00 0;", 0);
        check.accepts(TWO + "text0 1 9;distinct1 0 4 2295;text 0 1 1;distinct 0 1 0 1;", 4);
        check.accepts(TWO + "text 0 1 0000000000000000000000009;", 1);
        check.accepts(TWO + "floor size;", 0);
        check.accepts(TWO + "floor ((((size))))*(scheme)+(1)-9999/((0));", 0);
        check.accepts("scheme;floor size+1*scheme;", 0);
        check.accepts("scheme;floor 1;role 0 0 0;role 0 0 0;text 1 0 1;", 1);
        ColorScheme x = Check.loaded("scheme;role 10 20 30;role 1 2 3 dark 4 5 6 fixed;role 0 255 128fixed;");
        check.same("light", 660510, x.colour(0, 0));
        check.same("dark without dark", 16777215 - 660510, x.colour(0, 1));
        check.same("dark with dark", 263430, x.colour(1, 1));
        check.same("light with dark", 66051, x.colour(1, 0));
        check.same("fixed 0", false, x.isFixed(0));
        check.same("fixed 1", true, x.isFixed(1));
        check.same("fixed 2", true, x.isFixed(2));
        check.same("dark 2", 65536 * 255 + 127, x.colour(2, 1));
    }

    private static void syntaxErrors() {
        for (String marked : new String[] {
            "^", "   ^", "^;", "^Scheme;", "^schemes;", "^schem", "^schemerole;", "scheme^", "scheme   ^", "scheme ^scheme;",
            "scheme;^;", "scheme;role 0 0 0;^;", "scheme;^1", "scheme;^roles 0 0 0;", "scheme;^rol 0 0 0;",
            "scheme;^size;", "scheme;^dark 0 0 0;", "scheme;^fixed;", "scheme; ^#", "scheme;^\trole 0 0 0;",
            "scheme;^\n", "scheme;^\u00ff", "scheme;^\u0000", "scheme^_;", "scheme;^scheme;",
            "scheme;role^", "scheme;role ^;", "scheme;role 0 0^;", "scheme;role 0 0 0^", "scheme;role 0 0 0   ^",
            "scheme;role 0 0 0 ^0;", "scheme;role ^-1 0 0;", "scheme;role 0^,0,0;", "scheme;role 0 0 0^role 0 0 0;",
            "scheme;role 0 0 0 dark^;", "scheme;role 0 0 0 dark 0 0^;", "scheme;role 0 0 0 dark 0 0 0 ^dark 0 0 0;",
            "scheme;role 0 0 0 fixed ^dark 0 0 0;", "scheme;role 0 0 0 fixed ^fixed;", "scheme;role 0 0 0 ^fixeddark 0 0 0;",
            "scheme;role 0 0 0 dark ^fixed;", "scheme;role 0 0 0 ^darks 0 0 0;", "scheme;role 0 0 0;^Role 0 0 0;",
            TWO + "text 0 1^;", TWO + "text 0^;", TWO + "text^", TWO + "text 0 1 1 ^1;", TWO + "text 0 1 ^size;",
            TWO + "distinct 0 1 0^;", TWO + "distinct 0 1 0 5 ^5;", TWO + "distinct 0 1 0 5^", TWO + "^texts 0 1 1;",
            "scheme;floor^;", "scheme;floor^", "scheme;floor 1^", "scheme;floor ^-1;", "scheme;floor 1+^;",
            "scheme;floor 1+^*2;", "scheme;floor 1 ^2;", "scheme;floor (1^;", "scheme;floor (1^", "scheme;floor 1^);",
            "scheme;floor (^);", "scheme;floor ^sizes;", "scheme;floor ^schemesize;", "scheme;floor size ^scheme;",
            "scheme;floor 2^(3);", "scheme;floor ^role;", "scheme;floor 1;^floor 1;", "scheme;floor 1;^floor",
            "scheme;floor 1;role 0 0 0;  ^floor 99999;", "scheme;floor 1^%2;", "scheme;floor 1+(2*3^;",
            "^xcheme;", "scheme;^sole 0 0 0;", "scheme;role 0 0 0 ^bark 0 0 0;", "scheme;role 0 0 0 ^mixed;",
            TWO + "^next 0 1 1;", TWO + "^mistinct 0 1 0 5;", "scheme;^xloor 1;", "scheme;floor ^xize;", "scheme;floor ^xcheme;",
            "scheme;floor ((((1)))^;", "scheme;floor 1^.5;", "scheme;floor ^floor 1;"
        }) {
            check.rejects(-2, marked);
        }
    }

    private static void rangeErrors() {
        for (String marked : new String[] {
            "scheme;role ^256 0 0;", "scheme;role 0 ^256 0;", "scheme;role 0 0 ^256;", "scheme;role 0 0 0 dark ^256 0 0;",
            "scheme;role 0 0 0 dark 0 ^256 0;", "scheme;role 0 0 0 dark 0 0 ^256;", "scheme;role ^256 256 256;",
            "scheme;role ^00256 0 0;", "scheme;role ^4294967296 0 0;", "scheme;role ^18446744073709551616 0 0;",
            "scheme;role ^9999999999999999999999999999999 0 0;", "scheme;role ^256", "scheme;role 0   ^999 #",
            "scheme;text ^0 1 1;", "scheme;text ^0 0 1;", "scheme;role 0 0 0;text 0 ^1 1;", "scheme;role 0 0 0;text ^1 0 1;",
            "scheme;role 0 0 0;text 0 ^0 1;", "scheme;distinct ^0 1 0 1;", "scheme;text ^0 1 1;role 0 0 0;role 0 0 0;",
            TWO + "text ^2 0 1;", TWO + "text 0 ^2 1;", TWO + "text 0 ^0 1;", TWO + "text 1 ^1 1;", TWO + "text 1 ^001 1;",
            TWO + "text 0 1 ^0;", TWO + "text 0 1 ^10;", TWO + "text 0 ^0 0;", TWO + "text 0 ^4294967297 5;",
            TWO + "distinct ^2 0 0 1;", TWO + "distinct 0 ^2 0 1;", TWO + "distinct 0 ^0 0 1;", TWO + "distinct 0 1 ^5 1;",
            TWO + "distinct 0 1 0 ^0;", TWO + "distinct 0 1 4 ^2296;", TWO + "distinct 0 1 ^5 0;",
            "scheme;floor ^10000;", "scheme;floor 9999+^10000;", "scheme;floor (1*^99999999999999999999)", "scheme;floor 1/^10000"
        }) {
            check.rejects(-3, marked);
        }
    }

    private static void tooMany() {
        String tenRoles = "scheme;" + "role 0 0 0;".repeat(10);
        String twelveRules = TWO + "text 0 1 1;".repeat(6) + "distinct 0 1 0 1;".repeat(6);
        check.accepts(tenRoles, 0);
        check.accepts(twelveRules, 12);
        check.accepts(tenRoles + "text 9 8 1;".repeat(12), 12);
        check.accepts(twelveRules + "role 0 0 0;floor 1;", 12);
        check.rejects(-4, tenRoles + "^role 0 0 0;");
        check.rejects(-4, tenRoles + "text 9 8 1;  ^role 999 #");
        check.rejects(-4, tenRoles + "^role");
        check.rejects(-2, tenRoles + "^roles");
        check.rejects(-3, tenRoles + "text ^10 0 1;");
        check.rejects(-4, twelveRules + "^text 0 1 1;");
        check.rejects(-4, twelveRules + "^distinct 0 0 9 0;");
        check.rejects(-4, twelveRules + "floor 1; ^text");
        check.rejects(-2, twelveRules + "floor 1;^floor 1;");
    }

    private static void tooDeep() {
        check.accepts("scheme;floor ((((1))))+((((2))));", 0);
        check.accepts("scheme;floor (1)+(2)+(3)+(4)+(5)+(6);", 0);
        check.accepts("scheme;floor (((1+(size)*(scheme))));", 0);
        check.rejects(-5, "scheme;floor ((((^(1)))));");
        check.rejects(-5, "scheme;floor ((((^(");
        check.rejects(-5, "scheme;floor ((((1+2*^(3)))));");
        check.rejects(-5, "scheme;floor (((1)+((2)-3*(^(4)))));");
        check.rejects(-2, "scheme;floor ((((1^(2)))));");
        check.rejects(-2, "scheme;floor ((((1))))^);");
    }
}
