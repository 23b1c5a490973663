/** Each sentence of the colours and of promises 7 to 13 that names a boundary case: a method for each. */
public final class BoundsColourTest {
    private static final Check check = new Check();
    private static final Object NO_INDEX = IndexOutOfBoundsException.class;
    private static final Object NOT_ALLOWED = IllegalArgumentException.class;
    private static final int MOST = Integer.MAX_VALUE;
    private static final int LEAST = Integer.MIN_VALUE;
    private static final int[] SCHEMES_AROUND = {LEAST, -1, 0, 1, 2, MOST};

    public static void main(String[] args) {
        countsIndexesFromZero();
        joinsChannels();
        truncatesLuminances();
        boundsLuminances();
        truncatesContrasts();
        boundsContrasts();
        limitsSeenRed();
        limitsSeenGreen();
        limitsSeenBlue();
        seesWithTheOriginalChannels();
        seesWithEachFactor();
        truncatesSeenChannels();
        weighsDifferences();
        boundsDifferences();
        asksColours();
        asksFixed();
        asksLuminances();
        asksContrasts();
        asksSeen();
        asksDifferences();
        takesTheFirstOfSeveral();
        findsNoRole();
        boundsColours();
        boundsSchemesOfNearest();
        check.end("BoundsColourTest");
    }

    private static ColorScheme of(int colour) {
        ColorScheme x = Check.loaded("scheme;role 0 0 0;role 0 0 0;");
        x.setColour(0, 0, colour);
        return x;
    }

    private static ColorScheme of(int first, int second) {
        ColorScheme x = of(first);
        x.setColour(1, 0, second);
        return x;
    }

    private static void countsIndexesFromZero() {
        check.says("Roles and rules have indexes from 0 in the order of their declaration."
            + " The schemes are 0 (light) and 1 (dark).");
        ColorScheme x = Check.loaded("scheme;role 1 1 1 dark 2 2 2;role 3 3 3 dark 4 4 4 fixed;distinct 0 1 0 7;"
            + "role 5 5 5 dark 6 6 6;distinct 2 0 0 8;text 1 2 1;distinct 1 0 0 9;");
        for (int role = 0; role < 3; role++) {
            for (int scheme = 0; scheme < 2; scheme++) {
                check.same("colour of role " + role, 0x010101 * (2 * role + scheme + 1), x.colour(role, scheme));
            }
            check.same("fixed", role == 1, x.isFixed(role));
        }
        int[] needs = {7, 8, 450, 9};
        for (int rule = 0; rule < needs.length; rule++) {
            check.same("need of rule " + rule, needs[rule], x.need(rule, 0));
        }
    }

    private static void joinsChannels() {
        check.says("As a number it is 65536 * r + 256 * g + b.");
        ColorScheme x = Check.loaded("scheme;role 255 0 0;role 0 255 0;role 0 0 255;role 0 0 0;role 255 255 255;"
            + "role 0 1 0;role 1 0 0;role 0 0 1;");
        int[] due = {16711680, 65280, 255, 0, 16777215, 256, 65536, 1};
        for (int role = 0; role < due.length; role++) {
            check.same("colour of role " + role, due[role], x.colour(role, 0));
            check.same("as it is seen", due[role], x.seen(role, 0, 0));
        }
    }

    private static void truncatesLuminances() {
        check.says("The luminance of a colour is (2126 * r * r + 7152 * g * g + 722 * b * b) / 10000.");
        int[] colours = {0x020000, 0x030000, 0x000100, 0x000200, 0x000003, 0x000004, 0x020100, 0x010015, 0x030015};
        int[] due = {0, 1, 0, 2, 0, 1, 1, 32, 33};
        for (int i = 0; i < due.length; i++) {
            check.same("of " + colours[i], due[i], of(colours[i]).luminance(0, 0));
        }
    }

    private static void boundsLuminances() {
        check.says("The luminance: from black to white");
        int[] colours = {0, 1, 0xffffff, 0xfffffe, 0xfffeff, 0xfeffff, 0xff0000, 0x00ff00, 0x0000ff};
        int[] due = {0, 0, 65025, 64988, 64660, 64916, 13824, 46505, 4694};
        for (int i = 0; i < due.length; i++) {
            check.same("of " + colours[i], due[i], of(colours[i]).luminance(0, 0));
        }
    }

    private static void truncatesContrasts() {
        check.says("The contrast of two colours is 100 * (the greater luminance + 3251) / (the smaller luminance + 3251).");
        // With black, a luminance of 32 is just too small for 101, and one of 33 is not.
        check.same("100.98", 100, of(0, 0x010015).contrast(0, 1, 0));
        check.same("101.02", 101, of(0, 0x030015).contrast(0, 1, 0));
        check.same("the greater one first", 101, of(0, 0x030015).contrast(1, 0, 0));
        check.same("2099.51", 2099, of(0x030000, 0xffffff).contrast(0, 1, 0));
        check.same("2098.86", 2098, of(0xffffff, 0x000200).contrast(0, 1, 0));
        check.same("2096.80", 2096, of(0xfeffff, 0).contrast(0, 1, 0));
    }

    private static void boundsContrasts() {
        check.says("The contrast: from that of a colour with itself to that of black and white");
        for (int colour : new int[] {0, 1, 0x808080, 0xfffffe, 0xffffff}) {
            check.same("of " + colour + " with itself", 100, of(colour, colour).contrast(0, 1, 0));
            check.same("of the same role", 100, of(colour).contrast(0, 0, 0));
        }
        check.same("black and white", 2100, of(0, 0xffffff).contrast(0, 1, 0));
        check.same("white and black", 2100, of(0xffffff, 0).contrast(0, 1, 0));
        check.same("colours of the same luminance", 100, of(0x000003, 0x020000).contrast(0, 1, 0));
        check.same("black and nearly white", 2099, of(0, 0xfffffe).contrast(0, 1, 0));
    }

    private static void seen(int r, int g, int b, int sight, int dueR, int dueG, int dueB) {
        check.same("(" + r + " " + g + " " + b + ") with sight " + sight, 65536 * dueR + 256 * dueG + dueB,
            of(65536 * r + 256 * g + b).seen(0, 0, sight));
    }

    /** Each bound by the channel that the formula gives: 255, 256, 0 and -1. */
    private static void limitsSeenRed() {
        check.says("and then limited to the range 0 to 255: r");
        seen(54, 247, 60, 1, 255, 206, 51);
        seen(19, 254, 70, 1, 255, 208, 61);
        seen(6, 4, 25, 1, 0, 6, 26);
        seen(18, 13, 85, 1, 0, 20, 88);
        seen(255, 255, 0, 1, 255, 229, 0);
        seen(0, 0, 255, 1, 0, 25, 255);
        seen(153, 248, 60, 2, 255, 212, 66);
        seen(157, 241, 40, 2, 255, 208, 47);
        seen(20, 59, 255, 2, 0, 57, 249);
        seen(14, 22, 110, 2, 0, 23, 107);
        seen(255, 255, 0, 2, 255, 243, 7);
        seen(0, 0, 255, 2, 0, 11, 247);
        seen(215, 8, 75, 3, 255, 1, 29);
        seen(225, 20, 140, 3, 255, 21, 57);
        seen(35, 13, 240, 3, 0, 44, 82);
        seen(8, 4, 60, 3, 0, 11, 21);
        seen(255, 0, 0, 3, 255, 0, 1);
        seen(0, 255, 255, 3, 0, 255, 253);
    }

    private static void limitsSeenGreen() {
        check.says("and then limited to the range 0 to 255: g");
        seen(4, 239, 230, 3, 0, 255, 235);
        seen(5, 255, 130, 3, 0, 255, 215);
        seen(19, 0, 10, 3, 22, 0, 3);
        seen(70, 4, 5, 3, 86, 0, 4);
        for (int sight = 0; sight < 5; sight++) {
            seen(255, 255, 255, sight, 255, 255, 255);
            seen(0, 0, 0, sight, 0, 0, 0);
        }
    }

    private static void limitsSeenBlue() {
        check.says("and then limited to the range 0 to 255: b");
        seen(4, 36, 245, 1, 0, 53, 255);
        seen(3, 36, 245, 1, 0, 52, 255);
        seen(1, 0, 0, 1, 0, 0, 0);
        seen(0, 240, 10, 1, 250, 189, 0);
        seen(32, 216, 255, 2, 139, 166, 255);
        seen(14, 211, 255, 2, 128, 157, 255);
        seen(18, 5, 0, 2, 10, 8, 0);
        seen(112, 8, 0, 2, 47, 36, 0);
    }

    private static void seesWithTheOriginalChannels() {
        check.says("each of which is computed with the original channels");
        seen(255, 0, 0, 1, 38, 29, 0);
        seen(255, 0, 0, 2, 93, 71, 0);
        seen(255, 0, 0, 4, 76, 76, 76);
        seen(0, 255, 0, 1, 255, 200, 0);
        seen(0, 255, 0, 2, 219, 171, 10);
        seen(0, 255, 0, 3, 0, 237, 176);
        seen(0, 255, 0, 4, 149, 149, 149);
        seen(0, 0, 255, 3, 0, 37, 77);
        seen(0, 0, 255, 4, 29, 29, 29);
    }

    /** Colours with which a factor that is greater or smaller by 1 gives another channel. */
    private static void seesWithEachFactor() {
        check.says("There are five kinds of sight: each factor");
        seen(162, 245, 140, 0, 162, 245, 140);
        seen(162, 245, 140, 1, 253, 225, 134);
        seen(210, 190, 136, 1, 204, 186, 133);
        seen(204, 213, 221, 2, 207, 210, 220);
        seen(239, 202, 217, 2, 212, 213, 216);
        seen(133, 110, 149, 3, 131, 113, 121);
        seen(157, 192, 147, 3, 156, 188, 178);
        seen(186, 148, 180, 4, 163, 163, 163);
        seen(40, 108, 251, 4, 103, 103, 103);
    }

    private static void truncatesSeenChannels() {
        check.says("Division truncates toward zero: the channels that are seen");
        seen(10, 18, 95, 1, 0, 24, 99);
        seen(4, 14, 70, 1, 1, 18, 72);
        seen(5, 198, 10, 1, 207, 157, 0);
        seen(4, 198, 10, 1, 207, 157, 1);
        seen(6, 37, 145, 2, 0, 33, 142);
        seen(10, 30, 125, 2, 1, 28, 122);
        seen(35, 33, 0, 2, 41, 32, 0);
        seen(17, 28, 0, 2, 30, 23, 1);
        seen(27, 9, 180, 3, 0, 32, 61);
        seen(16, 248, 0, 3, 1, 229, 171);
        seen(30, 2, 10, 3, 35, 1, 4);
        seen(200, 0, 0, 3, 251, 0, 1);
        seen(3, 0, 0, 4, 0, 0, 0);
        seen(4, 0, 0, 4, 1, 1, 1);
        seen(0, 1, 0, 4, 0, 0, 0);
        seen(0, 2, 0, 4, 1, 1, 1);
        seen(0, 0, 8, 4, 0, 0, 0);
        seen(0, 0, 9, 4, 1, 1, 1);
    }

    private static void weighsDifferences() {
        check.says("The difference of two colours is 3 * |difference of r| + 4 * |difference of g| + 2 * |difference of b|.");
        int[] colours = {0x808080, 0x818080, 0x7f8080, 0x808180, 0x807f80, 0x808081, 0x80807f, 0x7f817f, 0x817f81};
        int[] due = {0, 3, 3, 4, 4, 2, 2, 9, 9};
        for (int i = 0; i < due.length; i++) {
            check.same("to " + colours[i], due[i], of(0x808080, colours[i]).difference(0, 1, 0, 0));
            check.same("from " + colours[i], due[i], of(colours[i], 0x808080).difference(0, 1, 0, 0));
        }
    }

    private static void boundsDifferences() {
        check.says("The difference: from 0 to that of black and white");
        for (int sight = 0; sight < 5; sight++) {
            check.same("black and white", 2295, of(0, 0xffffff).difference(0, 1, 0, sight));
            check.same("white and black", 2295, of(0xffffff, 0).difference(0, 1, 0, sight));
            check.same("of the same role", 0, of(0x123456).difference(0, 0, 0, sight));
            check.same("of the same colour", 0, of(0x123456, 0x123456).difference(0, 1, 0, sight));
        }
        // What is seen of these is the same, for channels beyond the range are limited before they are compared.
        check.same("limited before", 0, of(0x0000ff, 0x0000fd).difference(0, 1, 0, 1));
        check.same("seen alike, though not the same", 0, of(0x000008, 0).difference(0, 1, 0, 4));
        check.same("not alike any more", 9, of(0x000009, 0).difference(0, 1, 0, 4));
    }

    private static ColorScheme three() {
        return Check.loaded("scheme;role 255 0 0 dark 0 0 4;role 0 1 0 dark 0 2 0 fixed;role 3 0 0 dark 255 255 255;");
    }

    /** The role 3 is the first that is not there, the role 2 the last that is. */
    private static void asksColours() {
        check.says("colour: if there is no such role or scheme");
        ColorScheme x = three();
        int[] roles = {LEAST, -1, 0, 2, 3, 9, 10, MOST};
        Object[] light = {NO_INDEX, NO_INDEX, 0xff0000, 0x030000, NO_INDEX, NO_INDEX, NO_INDEX, NO_INDEX};
        for (int i = 0; i < roles.length; i++) {
            int role = roles[i];
            check.answers("role " + role, light[i], () -> x.colour(role, 0));
        }
        Object[] last = {NO_INDEX, NO_INDEX, 0x030000, 0xffffff, NO_INDEX, NO_INDEX};
        for (int i = 0; i < last.length; i++) {
            int scheme = SCHEMES_AROUND[i];
            check.answers("scheme " + scheme, last[i], () -> x.colour(2, scheme));
        }
    }

    private static void asksFixed() {
        check.says("isFixed: if there is no such role");
        ColorScheme x = three();
        int[] roles = {LEAST, -1, 0, 1, 2, 3, 9, 10, MOST};
        Object[] due = {NO_INDEX, NO_INDEX, false, true, false, NO_INDEX, NO_INDEX, NO_INDEX, NO_INDEX};
        for (int i = 0; i < roles.length; i++) {
            int role = roles[i];
            check.answers("role " + role, due[i], () -> x.isFixed(role));
        }
        ColorScheme ten = Check.loaded("scheme;" + "role 1 1 1 fixed;".repeat(10));
        check.same("the role 9", true, ten.isFixed(9));
        check.answers("the role 10", NO_INDEX, () -> ten.isFixed(10));
    }

    private static void asksLuminances() {
        check.says("luminance: if there is no such role or scheme");
        ColorScheme x = three();
        int[] roles = {LEAST, -1, 0, 2, 3, 9, 10, MOST};
        Object[] light = {NO_INDEX, NO_INDEX, 13824, 1, NO_INDEX, NO_INDEX, NO_INDEX, NO_INDEX};
        for (int i = 0; i < roles.length; i++) {
            int role = roles[i];
            check.answers("role " + role, light[i], () -> x.luminance(role, 0));
        }
        Object[] last = {NO_INDEX, NO_INDEX, 1, 65025, NO_INDEX, NO_INDEX};
        for (int i = 0; i < last.length; i++) {
            int scheme = SCHEMES_AROUND[i];
            check.answers("scheme " + scheme, last[i], () -> x.luminance(2, scheme));
        }
    }

    private static void asksContrasts() {
        check.says("contrast: if there is no such role or scheme; possibly the same one");
        ColorScheme x = three();
        int[] roles = {LEAST, -1, 2, 3, 10, MOST};
        for (int role : roles) {
            Object due = role == 2 ? (Object) 100 : NO_INDEX;
            check.answers("first " + role, due, () -> x.contrast(role, 2, 0));
            check.answers("second " + role, due, () -> x.contrast(2, role, 0));
            check.answers("both " + role, due, () -> x.contrast(role, role, 0));
        }
        // Black but for a blue of 4, and white.
        Object[] last = {NO_INDEX, NO_INDEX, 525, 2099, NO_INDEX, NO_INDEX};
        for (int i = 0; i < last.length; i++) {
            int scheme = SCHEMES_AROUND[i];
            check.answers("scheme " + scheme, last[i], () -> x.contrast(0, 2, scheme));
        }
    }

    private static void asksSeen() {
        check.says("seen: if there is no such role or scheme; if sight is not 0 to 4");
        ColorScheme x = three();
        for (int role : new int[] {LEAST, -1, 3, 10, MOST}) {
            check.answers("role " + role, NO_INDEX, () -> x.seen(role, 0, 0));
        }
        for (int scheme : new int[] {LEAST, -1, 2, MOST}) {
            check.answers("scheme " + scheme, NO_INDEX, () -> x.seen(0, scheme, 0));
        }
        int[] sights = {LEAST, -1, 0, 1, 2, 3, 4, 5, 6, MOST};
        Object[] due = {NOT_ALLOWED, NOT_ALLOWED, 0xff0000, 0x261d00, 0x5d4700, 0xff0001, 0x4c4c4c, NOT_ALLOWED,
            NOT_ALLOWED, NOT_ALLOWED};
        for (int i = 0; i < sights.length; i++) {
            int sight = sights[i];
            check.answers("sight " + sight, due[i], () -> x.seen(0, 0, sight));
        }
        check.same("the last of each", 0xffffff, x.seen(2, 1, 4));
    }

    private static void asksDifferences() {
        check.says("difference: if there is no such role or scheme; if sight is not 0 to 4; possibly the same one");
        ColorScheme x = three();
        for (int role : new int[] {LEAST, -1, 2, 3, 10, MOST}) {
            Object due = role == 2 ? (Object) 0 : NO_INDEX;
            check.answers("first " + role, due, () -> x.difference(role, 2, 0, 0));
            check.answers("second " + role, due, () -> x.difference(2, role, 0, 0));
            check.answers("both " + role, due, () -> x.difference(role, role, 0, 4));
        }
        for (int scheme : new int[] {LEAST, -1, 2, MOST}) {
            check.answers("scheme " + scheme, NO_INDEX, () -> x.difference(0, 1, scheme, 0));
        }
        int[] sights = {LEAST, -1, 0, 1, 2, 3, 4, 5, 6, MOST};
        Object[] due = {NOT_ALLOWED, NOT_ALLOWED, 769, 227, 563, 767, 684, NOT_ALLOWED, NOT_ALLOWED, NOT_ALLOWED};
        for (int i = 0; i < sights.length; i++) {
            int sight = sights[i];
            check.answers("sight " + sight, due[i], () -> x.difference(0, 1, 0, sight));
        }
    }

    private static void takesTheFirstOfSeveral() {
        check.says("the smallest difference from this colour, of several the one with the smallest index");
        ColorScheme x = Check.loaded("scheme;role 9 9 9;role 20 10 10;role 10 10 10;role 10 10 10;role 12 10 10;"
            + "role 10 10 13;role 10 10 10;");
        check.same("the colour itself, three times", 2, x.nearest(0x0a0a0a, 0));
        check.same("as far from two", 2, x.nearest(0x0b0a0a, 0));
        check.same("a step to the last", 4, x.nearest(0x0c0a0a, 0));
        // Three steps of b are 6: from 10 10 12, role 5 is 2 away, role 2 is 4.
        check.same("nearer by one step", 5, x.nearest(0x0a0a0c, 0));
        check.same("the other way", 2, x.nearest(0x0a0a0b, 0));
        ColorScheme y = Check.loaded("scheme;" + "role 0 0 0;".repeat(9) + "role 0 0 1;");
        check.same("the last of ten", 9, y.nearest(0xffffff, 0));
        check.same("the first of nine", 0, y.nearest(0, 0));
        check.same("the first of nine in dark", 0, y.nearest(0xffffff, 1));
        check.same("the last of ten in dark", 9, y.nearest(0, 1));
        ColorScheme alike = Check.loaded("scheme;role 0 0 8 dark 0 0 0;role 0 0 0 dark 9 9 9;");
        check.same("as it is, not as it is seen", 1, alike.nearest(0, 0));
        check.same("as far as can be", 0, Check.loaded("scheme;role 0 0 0;").nearest(0xffffff, 0));
    }

    private static void findsNoRole() {
        check.says("-1 if there are no roles");
        for (ColorScheme x : new ColorScheme[] {new ColorScheme(), Check.loaded("scheme;")}) {
            for (int scheme = 0; scheme < 2; scheme++) {
                check.same("the least colour", -1, x.nearest(0, scheme));
                check.same("the greatest colour", -1, x.nearest(16777215, scheme));
            }
        }
        check.same("there is one", 0, Check.loaded("scheme;role 9 9 9;").nearest(0, 0));
        ColorScheme y = Check.loaded("scheme;role 9 9 9;");
        y.undo();
        check.same("there is none any more", -1, y.nearest(0, 0));
    }

    private static void boundsColours() {
        check.says("nearest: if colour is out of range");
        ColorScheme x = Check.loaded("scheme;role 255 255 255;role 0 0 0;");
        int[] colours = {LEAST, -16777216, -2, -1, 0, 1, 16777214, 16777215, 16777216, 16777217, 33554431, MOST};
        Object[] due = {NOT_ALLOWED, NOT_ALLOWED, NOT_ALLOWED, NOT_ALLOWED, 1, 1, 0, 0, NOT_ALLOWED, NOT_ALLOWED,
            NOT_ALLOWED, NOT_ALLOWED};
        for (int i = 0; i < colours.length; i++) {
            int colour = colours[i];
            check.answers("colour " + colour, due[i], () -> x.nearest(colour, 0));
        }
        check.answers("also without roles", NOT_ALLOWED, () -> new ColorScheme().nearest(16777216, 0));
        check.answers("below it, without roles", NOT_ALLOWED, () -> new ColorScheme().nearest(-1, 1));
    }

    private static void boundsSchemesOfNearest() {
        check.says("nearest: if there is no such scheme");
        ColorScheme x = Check.loaded("scheme;role 255 255 255;role 0 0 0;");
        Object[] due = {NO_INDEX, NO_INDEX, 1, 0, NO_INDEX, NO_INDEX};
        for (int i = 0; i < due.length; i++) {
            int scheme = SCHEMES_AROUND[i];
            check.answers("scheme " + scheme, due[i], () -> x.nearest(0, scheme));
            Object none = scheme == 0 || scheme == 1 ? (Object) (-1) : NO_INDEX;
            check.answers("scheme " + scheme + " without roles", none, () -> new ColorScheme().nearest(0, scheme));
        }
    }
}
