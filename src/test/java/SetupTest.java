/** Promises 1 to 6: a new object, append, load with its errors, errorOffset, roleCount, ruleCount. */
public final class SetupTest {
    private static final Check check = new Check();

    public static void main(String[] args) {
        newObject();
        check.end("SetupTest");
    }

    private static void newObject() {
        ColorScheme x = new ColorScheme();
        check.same("roles at first", 0, x.roleCount());
    }
}
