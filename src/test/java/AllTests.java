import java.nio.file.Path;

/** Runs every test of the project, whose folder is told, or is this one; ends with 1 if one fails. */
public final class AllTests {
    public static void main(String[] args) {
        Path project = Path.of(args.length == 0 ? "." : args[0]);
        Checks checks = new Checks();
        ReadmeTest.run(checks, project.resolve("README.md"));
        FaceTest.run(checks);
        FetchTest.run(checks);
        EventsTest.run(checks);
        EntriesTest.run(checks);
        AccountsTest.run(checks);
        RefusedTest.run(checks);
        ModelTest.run(checks);
        if (!checks.report()) {
            System.exit(1);
        }
    }
}
