/** Runs every test of the project; ends with exit code 1 if an answer was not as due. */
public final class AllTests {
    private AllTests() {
    }

    public static void main(String[] args) throws Exception {
        ToldTests.run();
        DoneTests.run();
        ForetoldTests.run();
        SeenTests.run();
        ToldEdges.run();
        AskedEdges.run();
        DoneEdges.run();
        ForetoldEdges.run();
        SeenEdges.run();
        RefusedEdges.run();
        Edge.everyPromiseHasSome();
        RandomRuns.run();
        LanguageTests.run();
        ReadmeTests.run();
        System.out.println(Check.right() + " answers are as due, " + Check.wrong() + " are not");
        if (Check.wrong() != 0 || Check.right() == 0) System.exit(1);
    }
}
