/** Runs every test of the project; ends with 1 if one fails. */
public final class AllTests {
    public static void main(String[] args) {
        Checks checks = new Checks();
        FaceTest.run(checks);
        FetchTest.run(checks);
        EventsTest.run(checks);
        EntriesTest.run(checks);
        AccountsTest.run(checks);
        RefusedTest.run(checks);
        ModelTest.run(checks);
        if (!checks.report()) {
            System.exit(1);
        }
    }
}
