import java.nio.file.Path;

/** Runs all tests of the project; its argument is the path of CounterDesk.java. */
public final class AllTests {
    private AllTests() {
    }

    public static void main(String[] args) throws Exception {
        NotesTest.run();
        TapeTest.run();
        LawTest.run();
        OrdersTest.run();
        VoicesTest.run();
        HeardTest.run();
        KeepingTest.run();
        EdgesOfNotes.run();
        EdgesOfTape.run();
        EdgesOfTexts.run();
        EdgesOfLaws.run();
        EdgesOfOrders.run();
        EdgesOfVoices.run();
        EdgesOfHeard.run();
        EdgesOfKeeping.run();
        RandomRuns.run();
        WideRuns.run();
        EdgeRuns.run();
        RoomTest.run();
        LanguageTest.run(Path.of(args.length > 0 ? args[0] : "src/main/java/CounterDesk.java"));
        ReadmeTest.run(Path.of("README.md"));
        System.out.println(Check.made() + " checks of the project's own, " + Check.wrong() + " wrong");
        if (Check.wrong() != 0) {
            System.exit(1);
        }
    }
}
