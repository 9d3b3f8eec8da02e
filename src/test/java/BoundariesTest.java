/**
 * Each sentence of the document that names a boundary case, as a case of its own: the last value that is allowed and
 * the first that is refused, the empty and the full, a refused call and what it leaves unchanged.
 */
final class BoundariesTest {
    private static final int PROMISES = 25;

    public static void main(String[] args) {
        Checks checks = new Checks("BoundariesTest");
        Cases cases = new Cases(checks);
        TextCases.all(cases);
        AskedCases.all(cases);
        LevelCases.all(cases);
        DeedCases.all(cases);
        BookAndImageCases.all(cases);
        cases.allPromises(PROMISES);
        checks.end();
    }
}
