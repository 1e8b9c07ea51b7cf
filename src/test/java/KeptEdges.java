/** Promises 40 and 41. */
final class KeptEdges extends Edge {
  static void run() {
    promise40();
    promise41();
  }

  /** A school on day 6 in which nothing is as at first. */
  private static CrossBook sample() {
    CrossBook book = illIn(1, 2, 2);
    book.mind(1, CATCHING, 3);
    book.event(0, PAPER);
    book.event(39, FLOOD);
    for (int law = 0; law < 4; law++) {
      book.set(law, 6 + law - law / 2);
    }
    book.seed(-7);
    book.days(4);
    book.knock(2);
    book.days(2);
    book.write(0, 0, true);
    book.write(5, 1, false);
    return book;
  }

  /** Makes all of a school otherwise that is to be kept. */
  private static void spoil(CrossBook book) {
    for (int child = 0; child < 3; child++) {
      book.mind(child, TRUANT, 9);
      book.sick(child, 2);
    }
    book.set(STRONG, 1);
    book.knock(1);
    book.set(LOST, 2);
    book.set(TOUCH, 1);
    book.set(SPELL, 1);
    book.days(1);
    book.child(BAREFOOT, 9, 5, 9);
    for (int day = 0; day < 7; day++) {
      book.write(day, 0, day % 2 == 1);
      book.event(day, INSPECTOR);
    }
    book.event(39, 0);
    book.seed(1234567);
  }

  private static void promise40() {
    promise(40, "All but THE TAPE, ROWS, SHEETS, SHELVES, THE TRACE is kept: 1.", () -> {
      CrossBook book = sample();
      same("keep()", book.keep(), 1);
      sameText("all, behind keep()", picture(book), picture(sample()));
      CrossBook spoilt = sample();
      spoilt.keep();
      spoil(spoilt);
      same("it is otherwise", picture(spoilt).equals(picture(sample())) ? 1 : 0, 0);
      CrossBook again = sample();
      again.keep();
      spoil(again);
      again.again();
      sameText("all, behind again()", picture(again), picture(sample()));
      CrossBook truly = sample();
      truly.keep();
      spoil(truly);
      truly.again();
      same("FALSE CROSSES", truly.wrong(0), 1);
      same("LOST ones", truly.wrong(1), 1);
      besideStays();
      same("keep() of a new one", new CrossBook().keep(), 1);
    });
  }

  private static void besideStays() {
    CrossBook book = sample();
    book.sheet(0, 2, 3);
    book.sheet(1, 0, 3);
    book.shelf(0, 1, 0);
    book.shelf(1, 0, 0);
    book.prove(5);
    book.feed(0, 3);
    book.act(1, 0, 5);
    book.keep();
    book.put(0, 2, 77);
    book.sheet(1, -1, 0);
    book.shelf(0, 0, 2);
    book.shelf(2, 0, 1);
    book.prove(7);
    book.alterRow(6, 1, -9);
    book.feed(0, 4);
    book.act(1, 1, 5);
    same("again()", book.again(), 6);
    same("SHEET 0", book.item(0, 2, 2), 77);
    same("SHEET 1", book.item(1, 0, 0), NOTHING);
    same("SHELF 0", book.taken(0, ILL), 2);
    same("SHELF 2", book.taken(2, CATCHING), 1);
    same("ROWS", book.many(2), 7);
    same("ROW 6", book.row(6, 1), -9);
    same("bytes of THE TAPE", book.many(3), 7);
    same("bodies of THE TRACE", book.many(4), 3);
    same("a body of THE TRACE", book.trace(0), 11);
  }

  private static void promise41() {
    promise(41, "It becomes what was kept latest (which stays): TODAY.", () -> {
      CrossBook book = sample();
      book.keep();
      for (int i = 0; i < 3; i++) {
        spoil(book);
        same("again()", book.again(), 6);
        same("again() at once", book.again(), 6);
      }
      sameText("all, behind the last", picture(book), picture(sample()));
      CrossBook twice = new CrossBook();
      twice.keep();
      twice.child(KEPT, 1, 1, 1);
      twice.days(40);
      twice.keep();
      Check.school(twice, "ill 2 in 2;today 3;strong 9;");
      same("the latest", twice.again(), 40);
      same("its CHILDREN", twice.many(0), 1);
      same("its KIND", twice.childOf(0, 0), KEPT);
      same("its STRONG", twice.set(STRONG, 5), 5);
      same("its CROSSES", twice.many(1), 32);
      CrossBook empty = new CrossBook();
      empty.keep();
      spoil(empty);
      same("nothing comes again", empty.again(), 0);
      sameText("all, as new", picture(empty), picture(new CrossBook()));
    });
    promise(41, "NONE: nothing is kept.", () -> {
      CrossBook book = sample();
      same("again()", book.again(), NONE);
      sameText("all, behind it", picture(book), picture(sample()));
      book.keep();
      same("again() once it is kept", book.again(), 6);
      Check.school(book, "today 1;");
      same("again() behind another school", book.again(), 6);
    });
  }
}
