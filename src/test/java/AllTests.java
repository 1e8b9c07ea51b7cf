/** Runs every test of the project. */
public final class AllTests {
  public static void main(String[] args) throws Exception {
    SchoolTest.run();
    TextTest.run();
    DaysTest.run();
    AheadTest.run();
    RowsTest.run();
    HostTest.run();
    KeptTest.run();
    ModelTest.run();
    LanguageTest.run();
    Check.close();
    if (Check.failures() != 0) {
      System.exit(1);
    }
  }
}
