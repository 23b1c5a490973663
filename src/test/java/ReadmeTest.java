/** The example of README.md, call by call, with the answers that it tells of. */
public final class ReadmeTest {
    public static void main(String[] args) {
        Check check = new Check();
        check.says("README.md, Use");
        ColorScheme scheme = new ColorScheme();
        check.same("first append", 20, scheme.append(0x73636865, 0x6d653b72, 0x6f6c6520, 0x30203020, 0x303b726f));
        check.same("second append", 40, scheme.append(0x6c652036, 0x30203630, 0x2036303b, 0x74657874, 0x20302031));
        check.same("third append", 60, scheme.append(0x20313b20, 0x20202020, 0x20202020, 0x20202020, 0x20202020));
        check.same("load(60)", 1, scheme.load(60));
        check.same("errorOffset()", -1, scheme.errorOffset());
        check.same("violations()", 2, scheme.violations());
        check.same("bestShift(0, 0)", 47, scheme.bestShift(0, 0));
        check.same("shiftRole(0, 0)", 1, scheme.shiftRole(0, 0));
        check.same("repair(6)", 2, scheme.repair(6));
        check.same("violations() after it", 0, scheme.violations());
        check.same("undo()", 1, scheme.undo());
        check.same("violations() after undo()", 2, scheme.violations());
        check.end("ReadmeTest");
    }
}
