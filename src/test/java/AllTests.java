/** Runs every test of the project. */
public final class AllTests {
  public static void main(String[] args) throws Exception {
    SchoolTest.run();
    TextTest.run();
    DaysTest.run();
    AheadTest.run();
    RowsTest.run();
    HostTest.run();
    KeptTest.run();
    Edge.open();
    TermsEdges.run();
    SchoolEdges.run();
    DayEdges.run();
    TextEdges.run();
    TrialEdges.run();
    RowEdges.run();
    HostEdges.run();
    KeptEdges.run();
    Edge.close();
    ModelTest.run();
    WildTest.run();
    FaceTest.run();
    LanguageTest.run();
    ReadmeTest.run();
    Check.close();
    if (Check.failures() != 0) {
      System.exit(1);
    }
  }
}
