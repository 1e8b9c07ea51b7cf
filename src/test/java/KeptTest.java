/** Promises 40 and 41: what is kept, and what comes again. */
final class KeptTest {
  private static final Check CHECK = new Check("KeptTest");

  static void run() {
    promise40Keep();
    promise41Again();
    promise41WhatIsNotKept();
  }

  private static CrossBook sample() {
    CrossBook book = new CrossBook();
    book.child(1, 1, 2, 3);
    book.child(2, 2, 3, 4);
    book.sick(1, 9);
    book.set(0, 6);
    book.set(1, 7);
    book.set(2, 8);
    book.set(3, 9);
    book.event(4, 5);
    book.seed(99);
    book.knock(3);
    book.days(8);
    book.write(0, 0, false);
    return book;
  }

  /** Changes all that is kept. */
  private static void spoil(CrossBook book) {
    book.mind(0, 5, 5);
    book.sick(0, 4);
    book.knock(2);
    book.child(0, 0, 0, 0);
    book.set(0, 1);
    book.set(1, 2);
    book.set(2, 3);
    book.set(3, 4);
    book.event(4, 0);
    book.event(39, 31);
    book.write(1, 1, false);
    book.write(0, 0, true);
    book.days(3);
    book.draw();
  }

  private static void looksAsKept(String when, CrossBook book) {
    CHECK.same(when + ": today", book.today(), 8);
    CHECK.same(when + ": children", book.many(0), 2);
    int[][] due = {{1, 1, 2, 3, 0, 0, 0}, {2, 2, 3, 4, 1, 0, 2}};
    for (int child = 0; child < 2; child++) {
      for (int what = 0; what < 7; what++) {
        CHECK.same(when + ": childOf(" + child + ", " + what + ")", book.childOf(child, what), due[child][what]);
      }
    }
    CHECK.same(when + ": events of 4", book.dayOf(4, 0), 5);
    CHECK.same(when + ": events of 39", book.dayOf(39, 0), 0);
    CHECK.same(when + ": crosses", book.many(1), 11);
    CHECK.same(when + ": lost", book.wrong(1), 1);
    CHECK.same(when + ": false", book.wrong(0), 0);
    CHECK.same(when + ": truly on 0", book.dayOf(0, 3), 3);
    for (int law = 0; law < 4; law++) {
      CHECK.same(when + ": law " + law, book.set(law, 6 + law), 6 + law);
    }
    CHECK.same(when + ": z", book.seed(99), 99);
  }

  private static void promise40Keep() {
    CrossBook book = sample();
    looksAsKept("ahead of it", book);
    CHECK.same("keep", book.keep(), 1);
    looksAsKept("it changes nothing", book);
    spoil(book);
    book.again();
    spoil(book);
    CHECK.same("keep the spoilt", book.keep(), 1);
    book.days(3);
    CHECK.same("the latest counts", book.again(), 11);
    CHECK.same("children", book.many(0), 3);
    CrossBook empty = new CrossBook();
    CHECK.same("keep nothing", empty.keep(), 1);
    empty.child(0, 0, 0, 0);
    CHECK.same("nothing comes again", empty.again(), 0);
    CHECK.same("nothing", empty.many(0), 0);
  }

  private static void promise41Again() {
    CrossBook book = sample();
    CHECK.same("nothing is kept", book.again(), -3);
    looksAsKept("a refusal changes nothing", book);
    book.keep();
    for (int i = 0; i < 3; i++) {
      spoil(book);
      CHECK.same("again", book.again(), 8);
      looksAsKept("it stays kept", book);
    }
    Check.school(book, "ill 3 in 3;today 30;strong 1;");
    CHECK.same("again", book.again(), 8);
    looksAsKept("after another school", book);
  }

  private static void promise41WhatIsNotKept() {
    CrossBook book = sample();
    book.sheet(0, 2, 4);
    book.put(0, 1, 7);
    book.shelf(0, 0, 1);
    book.shelf(1, 1, 0);
    book.prove(5);
    book.feed(0, 3);
    book.act(0, 0, 1);
    book.keep();
    book.put(0, 1, 8);
    book.shelf(1, 2, 0);
    book.shelf(2, 0, 0);
    book.prove(6);
    book.feed(0, 3);
    book.act(0, 3, 1);
    int trace = book.many(4);
    book.again();
    CHECK.same("sheets stay", book.item(0, 2, 1), 8);
    CHECK.same("shelf 1 stays", book.taken(1, 12), -11);
    CHECK.same("shelf 2 stays", book.taken(2, 1), 0);
    CHECK.same("rows stay", book.many(2), 6);
    CHECK.same("the tape stays", book.many(3), 6);
    CHECK.same("the trace stays", book.many(4), trace);
  }
}
