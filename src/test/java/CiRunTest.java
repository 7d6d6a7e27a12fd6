/** The command that README.md names runs the tests of both folders, and fails if one of them does. */
public final class CiRunTest {
    private static final String OWN = "main/src/test/java/", GIVEN = "shared/tests/";

    public static void main(String[] args) throws Exception {
        try (Workplace place = new Workplace()) {
            place.copy(".ci/run", "main/.ci/run");
            place.copy("src/main/java/SealedDeals.java", "main/src/main/java/SealedDeals.java");
            place.write(OWN + "OwnTest.java", test("OwnTest", "new SealedDeals().needed() - 2"));
            place.write(GIVEN + "Given.java", test("Given", "new SealedDeals().needed() - 2"));
            ends(place, "all tests pass", true);
            fails(place, OWN + "BadTest.java", test("BadTest", "1"));
            fails(place, OWN + "BadTest.java", test("BadTest", "no number"));
            fails(place, GIVEN + "Bad.java", test("Bad", "1"));
            fails(place, GIVEN + "Bad.java", test("Bad", "77"));
            fails(place, GIVEN + "Bad.java", test("Bad", "1 / 0"));
            fails(place, GIVEN + "Bad.java", test("Bad", "no number"));
            fails(place, GIVEN + "deeper/Bad.java", test("Bad", "1"));
            place.remove(GIVEN + "Given.java");
            Due.holds("no given test is no success", command(place).exitCode() != 0);
        }
        Due.finish();
    }

    /** A program that tells that it ran, and ends with an exit code. */
    private static String test(String name, String exitCode) {
        return "public final class " + name + " { public static void main(String[] args) {\n"
            + "System.out.println(\"" + name + " ran\");\nSystem.exit(" + exitCode + ");\n} }\n";
    }

    private static void fails(Workplace place, String file, String test) throws Exception {
        place.write(file, test);
        ends(place, file + " with " + test, false);
        place.remove(file);
    }

    /** The tests that pass are run in any case. */
    private static void ends(Workplace place, String when, boolean well) throws Exception {
        Workplace.Ended ended = command(place);
        Due.holds("exit code of README.md's command, " + when, (ended.exitCode() == 0) == well);
        Due.holds("a test of the project ran, " + when, ended.output().contains("OwnTest ran"));
        Due.holds("a given test ran, " + when, ended.output().contains("Given ran"));
    }

    private static Workplace.Ended command(Workplace place) throws Exception {
        return place.run("main", "bash", "-c", Readme.commandForTheTests());
    }
}
