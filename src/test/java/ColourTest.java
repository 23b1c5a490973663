import java.util.function.Supplier;

/** Promises 7 to 13: colour, isFixed, luminance, contrast, seen, difference, nearest. */
public final class ColourTest {
    private static final Check check = new Check();
    private static final ColorScheme x = Check.loaded("scheme;role 200 30 90 dark 0 255 40;"
        + "role 17 34 51 dark 10 20 255 fixed;role 255 0 0 dark 255 255 255;");

    public static void main(String[] args) {
        coloursAndFixed();
        luminances();
        contrasts();
        seenColours();
        differences();
        nearestRoles();
        manyColours();
        check.end("ColourTest");
    }

    private static void noSuch(String what, Supplier<?> call) {
        check.refuses(what, IndexOutOfBoundsException.class, call);
    }

    private static void notAllowed(String what, Supplier<?> call) {
        check.refuses(what, IllegalArgumentException.class, call);
    }

    private static void coloursAndFixed() {
        check.same("colour(0, 0)", 13114970, x.colour(0, 0));
        check.same("colour(0, 1)", 65320, x.colour(0, 1));
        check.same("colour(2, 0)", 16711680, x.colour(2, 0));
        check.same("isFixed(0)", false, x.isFixed(0));
        check.same("isFixed(1)", true, x.isFixed(1));
        for (int wrong : new int[] {-1, 3, 9, 10, Integer.MAX_VALUE, Integer.MIN_VALUE}) {
            noSuch("colour of role " + wrong, () -> x.colour(wrong, 0));
            noSuch("isFixed of role " + wrong, () -> x.isFixed(wrong));
        }
        for (int wrong : new int[] {-1, 2, Integer.MAX_VALUE, Integer.MIN_VALUE}) {
            noSuch("colour in scheme " + wrong, () -> x.colour(0, wrong));
        }
    }

    private static void luminances() {
        check.same("luminance(0, 0)", 9732, x.luminance(0, 0));
        check.same("luminance(0, 1)", 46621, x.luminance(0, 1));
        check.same("luminance(1, 1)", 5002, x.luminance(1, 1));
        check.same("luminance of white", 65025, x.luminance(2, 1));
        noSuch("luminance of role 3", () -> x.luminance(3, 0));
        noSuch("luminance of role -1", () -> x.luminance(-1, 0));
        noSuch("luminance in scheme 2", () -> x.luminance(0, 2));
        noSuch("luminance in scheme -1", () -> x.luminance(0, -1));
    }

    private static void contrasts() {
        check.same("contrast(0, 1, 0)", 300, x.contrast(0, 1, 0));
        check.same("contrast(1, 0, 0)", 300, x.contrast(1, 0, 0));
        check.same("contrast(0, 1, 1)", 604, x.contrast(0, 1, 1));
        check.same("contrast of a role with itself", 100, x.contrast(1, 1, 1));
        ColorScheme blackAndWhite = Check.loaded("scheme;role 0 0 0;role 255 255 255;");
        check.same("contrast of black and white", 2100, blackAndWhite.contrast(0, 1, 0));
        check.same("contrast of white and black", 2100, blackAndWhite.contrast(0, 1, 1));
        noSuch("contrast of role 3", () -> x.contrast(3, 0, 0));
        noSuch("contrast with role 3", () -> x.contrast(0, 3, 0));
        noSuch("contrast with role -1", () -> x.contrast(0, -1, 0));
        noSuch("contrast of role -1", () -> x.contrast(-1, 0, 0));
        noSuch("contrast in scheme 2", () -> x.contrast(0, 1, 2));
        noSuch("contrast in scheme -1", () -> x.contrast(0, 1, -1));
    }

    private static void seenColours() {
        int[][] due = {
            {13114970, 2832220, 5132374, 15210801, 5723991},
            {65320, 16763933, 13806897, 62396, 10132122},
            {1122867, 1777971, 1515058, 599335, 1973790},
            {660735, 11007, 7415, 14171, 2829099},
            {16711680, 2497792, 6113024, 16711681, 5000268},
            {16777215, 16777215, 16777215, 16777215, 16777215}
        };
        for (int i = 0; i < due.length; i++) {
            for (int sight = 0; sight < 5; sight++) {
                check.same("seen(" + i / 2 + ", " + i % 2 + ", " + sight + ")", due[i][sight], x.seen(i / 2, i % 2, sight));
            }
        }
        notAllowed("sight 5", () -> x.seen(0, 0, 5));
        notAllowed("sight -1", () -> x.seen(0, 0, -1));
        noSuch("seen role 3", () -> x.seen(3, 0, 0));
        noSuch("seen role -1", () -> x.seen(-1, 0, 0));
        noSuch("seen in scheme 2", () -> x.seen(0, 2, 0));
        noSuch("seen in scheme -1", () -> x.seen(0, -1, 0));
        noSuch("seen role 3 with sight 5", () -> x.seen(3, 0, 5));
        noSuch("seen in scheme 2 with sight -1", () -> x.seen(0, 2, -1));
    }

    private static void differences() {
        int[] due = {643, 218, 437, 737, 513};
        for (int sight = 0; sight < 5; sight++) {
            check.same("difference with sight " + sight, due[sight], x.difference(0, 1, 0, sight));
            check.same("difference the other way", due[sight], x.difference(1, 0, 0, sight));
            check.same("difference with itself", 0, x.difference(0, 0, 1, sight));
        }
        ColorScheme blackAndWhite = Check.loaded("scheme;role 0 0 0;role 255 255 255;");
        check.same("greatest difference", 2295, blackAndWhite.difference(0, 1, 0, 0));
        check.same("greatest difference in dark", 2295, blackAndWhite.difference(0, 1, 1, 4));
        notAllowed("difference with sight 5", () -> x.difference(0, 1, 0, 5));
        notAllowed("difference with sight -1", () -> x.difference(0, 1, 0, -1));
        noSuch("difference of role 3", () -> x.difference(3, 0, 0, 9));
        noSuch("difference with role 3", () -> x.difference(0, 3, 0, 9));
        noSuch("difference of role -1", () -> x.difference(-1, 0, 0, 0));
        noSuch("difference with role -1", () -> x.difference(0, -1, 0, 0));
        noSuch("difference in scheme 2", () -> x.difference(0, 1, 2, -1));
        noSuch("difference in scheme -1", () -> x.difference(0, 1, -1, 0));
    }

    private static void nearestRoles() {
        check.same("nearest to a role's colour", 0, x.nearest(13114970, 0));
        check.same("nearest to black", 1, x.nearest(0, 0));
        check.same("nearest to red", 2, x.nearest(0xf00000, 0));
        check.same("nearest to yellow in dark", 0, x.nearest(0x40ff00, 1));
        check.same("nearest to white in dark", 2, x.nearest(16777215, 1));
        ColorScheme alike = Check.loaded("scheme;role 9 9 9;role 10 10 10;role 10 10 10;role 12 10 10;role 10 10 13;");
        check.same("of several the first", 1, alike.nearest(0x0a0a0a, 0));
        // 3 for one step of r to role 1, 3 for one step of r to role 3.
        check.same("as far from both", 1, alike.nearest(0x0b0a0a, 0));
        // Two steps of b, 2 each, to role 1; one step to role 4.
        check.same("b weighs 2", 4, alike.nearest(0x0a0a0c, 0));
        check.same("the only role, as far as can be", 0, Check.loaded("scheme;role 0 0 0;").nearest(16777215, 0));
        check.same("no roles", -1, new ColorScheme().nearest(5, 1));
        notAllowed("colour -1", () -> x.nearest(-1, 0));
        notAllowed("colour 16777216", () -> x.nearest(16777216, 0));
        notAllowed("colour 16777216 without roles", () -> new ColorScheme().nearest(16777216, 0));
        noSuch("nearest in scheme 2", () -> x.nearest(0, 2));
        noSuch("nearest in scheme -1", () -> x.nearest(0, -1));
        noSuch("nearest in scheme 2 to colour -1", () -> x.nearest(-1, 2));
    }

    /** With the formulas as the model has them, so that each factor tells. */
    private static void manyColours() {
        int colour = 0;
        for (int run = 0; run < 200; run++) {
            ColorScheme y = Check.loaded("scheme;role 0 0 0;role 0 0 0;");
            for (int i = 0; i < 10; i++) {
                int next = (colour * 69069 + 1234567) & 16777215;
                y.setColour(0, i % 2, colour);
                y.setColour(1, i % 2, next);
                Model.Rgb one = Model.Rgb.of(colour);
                Model.Rgb other = Model.Rgb.of(next);
                String pair = colour + " and " + next;
                check.same("luminance of " + colour, one.luminance(), y.luminance(0, i % 2));
                check.same("contrast of " + pair, one.contrast(other), y.contrast(0, 1, i % 2));
                for (int sight = 0; sight < 5; sight++) {
                    check.same("seen " + colour, one.seen(sight).number(), y.seen(0, i % 2, sight));
                    check.same("difference of " + pair, one.seen(sight).difference(other.seen(sight)),
                        y.difference(0, 1, i % 2, sight));
                }
                colour = next;
            }
        }
    }
}
