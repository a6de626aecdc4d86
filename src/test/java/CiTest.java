import java.io.IOException;

/** .ci/run passes when every test passes, and fails when one fails, is no Java, or is not there. */
public final class CiTest {
    private static final String OWN = "src/test/java/SmallTest.java";
    private static final String LATER = "src/test/java/ZLastTest.java";
    private static final String SHARED = "../shared/tests/Shared.java";

    private CiTest() {
    }

    public static void main(String[] args) throws IOException, InterruptedException {
        dueRun("all pass", test("SmallTest", 0), test("Shared", 0), true);
        dueRun("a test of the project fails", test("SmallTest", 1), test("Shared", 0), false);
        dueRun("a test of the project is no Java", "nothing", test("Shared", 0), false);
        dueRun("a shared test fails", test("SmallTest", 0), test("Shared", 1), false);
        dueRun("a shared test does not fit the class", test("SmallTest", 0),
                test("Shared", 0).replace("count(0)", "amount(0)"), false);
        Check.end();
    }

    private static String test(String name, int exitCode) {
        return "public final class " + name + " { public static void main(String[] args) {"
                + " System.out.println(\"" + name + " ran \" + new FleetFloor().count(0));"
                + " System.exit(" + exitCode + "); } }";
    }

    private static void dueRun(String what, String own, String shared, boolean passes)
            throws IOException, InterruptedException {
        try (Project project = new Project()) {
            project.take(".ci/run");
            project.take("src/main/java/FleetFloor.java");
            project.write(OWN, own);
            project.write(LATER, test("ZLastTest", 0));
            project.write(SHARED, shared);
            Check.due(what, project.run("sh .ci/run") == 0, passes);
            String printed = project.whatWasPrinted();
            if (passes) {
                Check.due("the project's tests were run", printed.contains("SmallTest ran -1")
                        && printed.contains("ZLastTest ran -1"), true);
                Check.due("the shared test was run", printed.contains("Shared ran -1"), true);
            }
        }
    }
}
