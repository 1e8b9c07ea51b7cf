/** The sentences on ROWS and THE READER (section 3), and promises 27 to 31. */
final class RowEdges extends Edge {
  static void run() {
    rows();
    reader();
    promise27();
    promises28And29();
    promise30();
    promise31();
    promise31Refusals();
  }

  /** Three in one house, the first ill for 2 days, the second catching, the third as a child. */
  private static CrossBook sample() {
    CrossBook book = illIn(0, 0, 0);
    book.mind(1, CATCHING, 0);
    book.mind(2, CHILD, 0);
    book.set(TOUCH, 1);
    book.sick(0, 2);
    book.sick(1, 0);
    book.sick(2, 0);
    return book;
  }

  private static void rows() {
    term("3 ROWS by n (1 to 20): (DAY, who are there as a set, who are SICK behind it as a set) of each of the next n DAYS "
        + "of a TRIAL (as far as there are such).", () -> {
      CrossBook book = sample();
      refusedOutside(1, 20, "prove", book::prove);
      same("prove(20)", book.prove(20), 20);
      // the ill one touches the catching one behind day 0; once both are sick they don't touch one another
      int[][] due = {{0, 6, 3}, {1, 4, 2}, {2, 5, 2}, {3, 5, 0}, {4, 7, 0}};
      for (int i = 0; i < 5; i++) {
        for (int what = 0; what < 3; what++) {
          same("row(" + i + ", " + what + ")", book.row(i, what), due[i][what]);
        }
      }
      same("the DAY of the last", book.row(19, 0), 19);
      same("prove(1)", book.prove(1), 1);
      same("the only one", book.row(0, 0), 0);
      book.days(38);
      same("prove(20) with 2 DAYS left", book.prove(20), 2);
      same("the DAY of the first", book.row(0, 0), 38);
      same("the DAY of the last", book.row(1, 0), 39);
      same("no more", book.row(2, 0), NOT_FOUND);
      book.days(1);
      same("prove(1) with 1 DAY left", book.prove(1), 1);
      book.days(1);
      same("prove(1) with none left", book.prove(1), 0);
      same("ROWS", book.many(2), 0);
    });
  }

  private static void reader() {
    term("THE READER takes ROWS as those of a TRIAL from now on: right is one that is as it must be", () -> {
      CrossBook book = sample();
      book.prove(20);
      same("as they must be", book.judge(), 0);
      for (int i = 0; i < 20; i += 19) {
        for (int what = 0; what < 3; what++) {
          for (int other : new int[] {-1, book.row(i, what) + 1, book.row(i, what) | 1 << 8, MIN, MAX}) {
            int was = book.alterRow(i, what, other);
            same("row " + i + " with " + other + " at " + what, book.judge(), i + 1);
            book.alterRow(i, what, was);
          }
        }
      }
      book.sick(0, 3);
      same("from now on: another SICK", book.judge(), 2);
      book.sick(0, 2);
      book.event(7, FLOOD);
      same("from now on: a flood for nobody", book.judge(), 0);
      book.event(7, PAPER);
      same("from now on: paper", book.judge(), 8);
      book.event(7, 0);
      book.days(1);
      same("from now on: a DAY later", book.judge(), 1);
    });
    term("rows beyond DAY 39 are wrong.", () -> {
      CrossBook book = new CrossBook();
      book.prove(3);
      book.days(38);
      for (int i = 0; i < 3; i++) {
        book.alterRow(i, 0, 38 + i);
      }
      same("the third is beyond", book.judge(), 3);
      book.days(2);
      for (int i = 0; i < 3; i++) {
        book.alterRow(i, 0, 40 + i);
      }
      same("all are beyond", book.judge(), 1);
      for (int day : new int[] {-1, 0, 39, 40}) {
        book.alterRow(0, 0, day);
        same("the first, whatever it tells: " + day, book.judge(), 1);
      }
      CrossBook again = new CrossBook();
      again.prove(2);
      again.days(39);
      again.alterRow(0, 0, 39);
      again.alterRow(1, 0, 39);
      same("the last DAY once more", again.judge(), 2);
    });
  }

  private static void promise27() {
    promise(27, "ROWS by n: how many.", () -> {
      CrossBook book = new CrossBook();
      same("of an empty school", book.prove(20), 20);
      same("fewer", book.prove(7), 7);
      same("those ahead are no more", book.row(7, 0), NOT_FOUND);
      book.days(39);
      same("as far as there are such", book.prove(7), 1);
      book.days(1);
      same("none", book.prove(20), 0);
    });
    promise(27, "BAD.", () -> {
      CrossBook book = new CrossBook();
      book.prove(5);
      refusedOutside(1, 20, "prove", book::prove);
      same("ROWS stay", book.many(2), 5);
      book.days(40);
      same("prove(0) in the end", book.prove(0), BAD);
    });
  }

  private static void nowhere(CrossBook book, int rows, int what) {
    for (int i : new int[] {-1, rows, 20, MIN, MAX}) {
      same("row(" + i + ", " + what + ")", book.row(i, what), NOT_FOUND);
      same("alterRow(" + i + ", " + what + ", 1)", book.alterRow(i, what, 1), NOT_FOUND);
    }
  }

  private static void promises28And29() {
    promise(28, "Of ROW i: what = 0 DAY, 1 who are there, 2 who are SICK.", () -> {
      CrossBook book = sample();
      book.days(1);
      book.prove(20);
      int[] first = {1, 4, 2};
      int[] last = {20, 7, 0};
      for (int what = 0; what < 3; what++) {
        same("row(0, " + what + ")", book.row(0, what), first[what]);
        same("row(19, " + what + ")", book.row(19, what), last[what]);
      }
    });
    promise(28, "-9: there is none such, another what.", () -> {
      CrossBook book = sample();
      same("no ROWS yet", book.row(0, 0), NOT_FOUND);
      book.prove(20);
      nowhere(book, 20, 0);
      book.prove(4);
      for (int what = 0; what < 3; what++) {
        nowhere(book, 4, what);
      }
      for (int what : new int[] {-1, 3, MIN, MAX}) {
        same("row(0, " + what + ")", book.row(0, what), NOT_FOUND);
        same("row(3, " + what + ")", book.row(3, what), NOT_FOUND);
      }
      same("row(1, -1), which isn't row(0, 2)", book.row(1, -1), NOT_FOUND);
      same("row(0, 3), which isn't row(1, 0)", book.row(0, 3), NOT_FOUND);
    });
    promise(29, "It becomes v: what it was.", () -> {
      CrossBook book = sample();
      book.prove(20);
      for (int v : new int[] {MIN, MAX, -1, 0}) {
        int was = book.row(19, 2);
        same("alterRow(19, 2, " + v + ")", book.alterRow(19, 2, v), was);
        same("row(19, 2)", book.row(19, 2), v);
      }
      same("alterRow(0, 0, 5)", book.alterRow(0, 0, 5), 0);
      same("row(0, 0)", book.row(0, 0), 5);
      same("row(0, 1) stays", book.row(0, 1), 6);
      same("row(1, 0) stays", book.row(1, 0), 1);
      book.prove(20);
      same("as it was, once proved again", book.row(0, 0), 0);
    });
    promise(29, "-9 likewise.", () -> {
      CrossBook book = sample();
      same("no ROWS yet", book.alterRow(0, 0, 0), NOT_FOUND);
      book.prove(4);
      nowhere(book, 4, 2);
      for (int what : new int[] {-1, 3, MIN, MAX}) {
        same("alterRow(3, " + what + ", 1)", book.alterRow(3, what, 1), NOT_FOUND);
      }
      same("all is as it was", book.judge(), 0);
      same("alterRow(1, -1, 1)", book.alterRow(1, -1, 1), NOT_FOUND);
      same("row(0, 2) stays", book.row(0, 2), 3);
    });
  }

  private static void promise30() {
    promise(30, "THE READER takes ROWS: 0 all is right (also if there are none)", () -> {
      CrossBook book = sample();
      same("none", book.judge(), 0);
      book.prove(1);
      same("one", book.judge(), 0);
      book.prove(20);
      same("20", book.judge(), 0);
      book.days(40);
      same("ROWS of DAYS that are over", book.judge(), 1);
      book.prove(3);
      same("none in the end", book.judge(), 0);
    });
    promise(30, "else the first ROW that isn't, and 1 more.", () -> {
      CrossBook book = sample();
      book.prove(20);
      for (int i = 19; i >= 0; i--) {
        book.alterRow(i, i % 3, -5);
        same("from row " + i + " on", book.judge(), i + 1);
      }
      book.prove(20);
      book.alterRow(19, 1, 0);
      same("the last alone", book.judge(), 20);
    });
  }

  private static CrossBook withBytes(int n) {
    CrossBook book = new CrossBook();
    book.sheet(0, 0, n);
    for (int i = 0; i < n; i++) {
      book.put(0, i, 31 - i % 32);
    }
    return book;
  }

  private static void promise31() {
    promise(31, "n numbers (0 to 40) of a SHEET taken for bytes, from i on, become EVENTS of DAYS from one on "
        + "(their lowest five bits): n.", () -> {
      CrossBook book = withBytes(40);
      same("40", book.events(0, 0, 0, 40), 40);
      for (int day = 0; day < 40; day++) {
        same("EVENTS of " + day, book.dayOf(day, 0), 31 - day % 32);
      }
      same("none", book.events(0, 0, 0, 0), 0);
      same("EVENTS of 0 stay", book.dayOf(0, 0), 31);
      same("the last byte for the last DAY", book.events(0, 39, 39, 1), 1);
      same("two from 3 on for DAYS 10 and 11", book.events(0, 3, 10, 2), 2);
      int[][] due = {{9, 22}, {10, 28}, {11, 27}, {12, 19}, {39, 24}};
      for (int[] day : due) {
        same("EVENTS of " + day[0], book.dayOf(day[0], 0), day[1]);
      }
      int[][] bits = {{-1, 31}, {-128, 0}, {127, 31}, {32, 0}, {33, 1}, {-32, 0}, {-33, 31}, {256 + 5, 5}};
      for (int[] one : bits) {
        book.put(0, 0, one[0]);
        book.events(0, 0, 20, 1);
        same("lowest five bits of " + one[0], book.dayOf(20, 0), one[1]);
      }
      same("none from the end on", book.events(0, 40, 39, 0), 0);
      same("none of a row of none", withBytes(0).events(0, 0, 39, 0), 0);
    });
  }

  private static void promise31Refusals() {
    promise(31, "BAD: no such SHEET, DAY, n, or n goes beyond DAY 39", () -> {
      CrossBook book = withBytes(40);
      refusedOutside(0, 3, "SHEET", sheet -> book.events(sheet, 0, 0, 1));
      refusedOutside(0, 39, "DAY", day -> book.events(0, 0, day, 0));
      refusedOutside(0, 40, "n", n -> book.events(0, 0, 0, n));
      same("40 from DAY 1 on", book.events(0, 0, 1, 40), BAD);
      same("2 from DAY 39 on", book.events(0, 0, 39, 2), BAD);
      same("5 from DAY 36 on", book.events(0, 0, 36, 5), BAD);
      same("4 from DAY 36 on", book.events(0, 0, 36, 4), 4);
      same("EVENTS of 0", book.dayOf(0, 0), 0);
      book.sheet(1, 1, 1);
      refusedOutside(0, 40, "n of a missing SHEET", n -> book.events(3, 0, 0, n));
      refusedOutside(0, 40, "n of another sort", n -> book.events(1, 0, 0, n));
      refusedOutside(0, 40, "n from a place outside on", n -> book.events(0, 41, 0, n));
      refusedOutside(0, 39, "DAY of a missing SHEET", day -> book.events(3, 0, day, 0));
    });
    promise(31, "-11", () -> {
      CrossBook book = withBytes(5);
      for (int sheet = 1; sheet < 4; sheet++) {
        same("missing at first", book.events(sheet, 0, 0, 0), NOTHING);
      }
      book.sheet(0, -1, 0);
      same("missing again", book.events(0, 0, 0, 1), NOTHING);
      same("missing, a place outside too", book.events(0, 41, 0, 1), NOTHING);
    });
    promise(31, "-13", () -> {
      CrossBook book = new CrossBook();
      for (int sort = 1; sort < 4; sort++) {
        book.sheet(sort, sort, 5);
        same("sort " + sort, book.events(sort, 0, 0, 1), OTHER);
        same("sort " + sort + ", a place outside too", book.events(sort, 5, 0, 1), OTHER);
        same("sort " + sort + ", of none", book.events(sort, 0, 0, 0), OTHER);
      }
    });
    promise(31, "-12.", () -> {
      CrossBook book = withBytes(5);
      for (int i : new int[] {-1, 6, MIN, MAX}) {
        same("none from " + i + " on", book.events(0, i, 0, 0), OUTSIDE);
        same("two from " + i + " on", book.events(0, i, 0, 2), OUTSIDE);
      }
      same("none from 5 on", book.events(0, 5, 0, 0), 0);
      same("one from 5 on", book.events(0, 5, 0, 1), OUTSIDE);
      same("two from 4 on", book.events(0, 4, 0, 2), OUTSIDE);
      same("two from 3 on", book.events(0, 3, 0, 2), 2);
      same("six of five", book.events(0, 0, 2, 6), OUTSIDE);
      same("EVENTS of 2", book.dayOf(2, 0), 0);
      same("one of a row of none", withBytes(0).events(0, 0, 0, 1), OUTSIDE);
    });
  }
}
