/** Counts what a test looks at, and prints what isn't as it is due. */
final class Check {
  private static int passed = 0;
  private static int failed = 0;
  private final String name;

  Check(String name) {
    this.name = name;
  }

  void same(String what, long got, long due) {
    yes(what + " answered " + got + ", due is " + due, got == due);
  }

  void yes(String what, boolean is) {
    if (is) {
      passed++;
    } else {
      failed++;
      System.out.println(name + ": " + what);
    }
  }

  /** Feeds a text to the tape, eight bytes at a time. */
  static void feed(CrossBook book, String text) {
    for (int from = 0; from < text.length(); from += 8) {
      int n = Math.min(8, text.length() - from);
      long eight = 0;
      for (int i = 0; i < n; i++) {
        eight |= (long) (text.charAt(from + i) & 255) << 8 * i;
      }
      book.feed(eight, n);
    }
  }

  static int school(CrossBook book, String text) {
    feed(book, text);
    return book.school();
  }

  /** How many things have been looked at. */
  static int looks() {
    return passed + failed;
  }

  static int failures() {
    return failed;
  }

  static void close() {
    System.out.println(passed + " passed, " + failed + " failed");
  }
}
