/** Promises 27 to 31: rows, the reader, events from a sheet. */
final class RowsTest {
  private static final Check CHECK = new Check("RowsTest");
  private static final int MIN = Integer.MIN_VALUE, MAX = Integer.MAX_VALUE;

  static void run() {
    promise27Prove();
    promise28Row();
    promise29AlterRow();
    promise30Judge();
    promise31Events();
    promise31Refusals();
  }

  private static CrossBook sample() {
    CrossBook book = new CrossBook();
    book.child(1, 1, 0, 0);
    book.child(2, 0, 0, 0);
    book.child(5, 0, 0, 0);
    book.set(2, 1);
    book.sick(1, 2);
    return book;
  }

  private static void promise27Prove() {
    CrossBook book = sample();
    for (int bad : new int[] {-1, 0, 21, MIN, MAX}) {
      CHECK.same("bad n", book.prove(bad), -1);
    }
    CHECK.same("20", book.prove(20), 20);
    CHECK.same("a refusal changes nothing", book.prove(21), -1);
    CHECK.same("20 rows", book.many(2), 20);
    CHECK.same("1", book.prove(1), 1);
    CHECK.same("1 row", book.many(2), 1);
    CHECK.same("nothing changes", book.today(), 0);
    book.days(37);
    CHECK.same("as far as there are such", book.prove(20), 3);
    book.days(3);
    CHECK.same("none", book.prove(20), 0);
    CHECK.same("no rows", book.many(2), 0);
    CHECK.same("no row 0", book.row(0, 0), -9);
  }

  private static void promise28Row() {
    CrossBook book = sample();
    CHECK.same("no rows yet", book.row(0, 0), -9);
    book.prove(5);
    // day 0: the ill one is away, the catching one gets ill behind it for 3 days
    int[][] due = {{0, 5, 6}, {1, 0, 4}, {2, 3, 4}, {3, 3, 0}, {4, 7, 0}};
    for (int i = 0; i < 5; i++) {
      for (int what = 0; what < 3; what++) {
        CHECK.same("row(" + i + ", " + what + ")", book.row(i, what), due[i][what]);
      }
    }
    for (int bad : new int[] {-1, 5, 20, MIN, MAX}) {
      CHECK.same("no such row", book.row(bad, 0), -9);
    }
    for (int bad : new int[] {-1, 3, MIN, MAX}) {
      CHECK.same("another what", book.row(0, bad), -9);
    }
    CHECK.same("wraps to no place", book.row(1431655766, 0), -9);
  }

  private static void promise29AlterRow() {
    CrossBook book = sample();
    CHECK.same("no rows yet", book.alterRow(0, 0, 1), -9);
    book.prove(3);
    CHECK.same("alter", book.alterRow(2, 1, MIN), 3);
    CHECK.same("altered", book.row(2, 1), MIN);
    CHECK.same("alter back", book.alterRow(2, 1, 3), MIN);
    CHECK.same("its neighbours stay", book.row(2, 0), 2);
    CHECK.same("its neighbours stay", book.row(2, 2), 4);
    for (int bad : new int[] {-1, 3, MIN, MAX}) {
      CHECK.same("no such row", book.alterRow(bad, 0, 0), -9);
      CHECK.same("another what", book.alterRow(0, bad, 0), -9);
    }
    CHECK.same("all is right", book.judge(), 0);
  }

  private static void promise30Judge() {
    CrossBook book = sample();
    CHECK.same("no rows", book.judge(), 0);
    book.prove(20);
    CHECK.same("all is right", book.judge(), 0);
    for (int i = 19; i >= 0; i--) {
      for (int what = 0; what < 3; what++) {
        int was = book.alterRow(i, what, book.row(i, what) | 256);
        CHECK.same("row " + i + " is altered", book.judge(), i + 1);
        book.alterRow(i, what, was);
      }
    }
    book.alterRow(7, 2, -1);
    book.alterRow(5, 0, 6);
    CHECK.same("the first", book.judge(), 6);
    book.prove(2);
    book.sick(0, 2);
    CHECK.same("another school", book.judge(), 1);
    book.sick(0, 0);
    CHECK.same("as it was", book.judge(), 0);
    book.days(1);
    CHECK.same("another day", book.judge(), 1);
    Check.school(book, "today 38;child 0 in 0;");
    CHECK.same("no rows any more", book.judge(), 0);
    book.prove(9);
    CHECK.same("two rows", book.judge(), 0);
    book.days(2);
    CHECK.same("beyond day 39", book.judge(), 1);
    book.keep();
    CrossBook late = new CrossBook();
    late.prove(5);
    late.keep();
    late.days(36);
    for (int i = 0; i < 5; i++) {
      late.alterRow(i, 0, 36 + i);
    }
    CHECK.same("the fifth is beyond day 39", late.judge(), 5);
    late.again();
    CHECK.same("rows stay", late.many(2), 5);
    CHECK.same("they aren't those of now", late.judge(), 1);
  }

  private static void promise31Events() {
    CrossBook book = new CrossBook();
    book.sheet(2, 0, 40);
    for (int i = 0; i < 40; i++) {
      book.put(2, i, i * 7 - 128);
    }
    CHECK.same("all", book.events(2, 0, 0, 40), 40);
    for (int day = 0; day < 40; day++) {
      CHECK.same("day " + day, book.dayOf(day, 0), (day * 7 - 128) & 31);
    }
    CHECK.same("some", book.events(2, 38, 10, 2), 2);
    CHECK.same("ahead stays", book.dayOf(9, 0), (9 * 7 - 128) & 31);
    CHECK.same("day 10", book.dayOf(10, 0), (38 * 7 - 128) & 31);
    CHECK.same("day 11", book.dayOf(11, 0), (39 * 7 - 128) & 31);
    CHECK.same("behind stays", book.dayOf(12, 0), (12 * 7 - 128) & 31);
    CHECK.same("none from the end", book.events(2, 40, 39, 0), 0);
    CHECK.same("the last day", book.events(2, 0, 39, 1), 1);
    CHECK.same("day 39", book.dayOf(39, 0), 0);
    book.sheet(3, 0, 0);
    CHECK.same("none of none", book.events(3, 0, 0, 0), 0);
  }

  private static void promise31Refusals() {
    CrossBook book = new CrossBook();
    book.sheet(0, 0, 5);
    book.put(0, 0, 31);
    book.sheet(1, 1, 5);
    for (int bad : new int[] {-1, 4, MIN, MAX}) {
      CHECK.same("no such sheet", book.events(bad, 0, 0, 1), -1);
    }
    for (int bad : new int[] {-1, 40, MIN, MAX}) {
      CHECK.same("no such day", book.events(0, 0, bad, 0), -1);
    }
    for (int bad : new int[] {-1, 41, MIN, MAX}) {
      CHECK.same("bad n", book.events(0, 0, 0, bad), -1);
    }
    CHECK.same("beyond day 39", book.events(0, 0, 36, 5), -1);
    CHECK.same("up to day 39", book.events(0, 0, 35, 5), 5);
    for (int sheet = 0; sheet < 4; sheet++) {
      CHECK.same("BAD ahead of all else", book.events(sheet, 9, 1, 40), -1);
    }
    CHECK.same("missing", book.events(2, 9, 0, 1), -11);
    for (int sort = 1; sort < 4; sort++) {
      book.sheet(1, sort, 5);
      CHECK.same("another sort", book.events(1, 9, 0, 1), -13);
    }
    for (int bad : new int[] {-1, 5, 6, MIN, MAX}) {
      CHECK.same("no such place", book.events(0, bad, 0, 1), -12);
    }
    CHECK.same("6 of 5", book.events(0, 0, 0, 6), -12);
    CHECK.same("none ahead of it", book.events(0, -1, 0, 0), -12);
    CHECK.same("none beyond it", book.events(0, 6, 0, 0), -12);
    CHECK.same("nothing came", book.dayOf(0, 0), 0);
  }
}
