/** Promises 1, 2 and 4 to 11: a new object, the tape, children, days' events, laws. */
final class SchoolTest {
  private static final Check CHECK = new Check("SchoolTest");
  private static final int MIN = Integer.MIN_VALUE, MAX = Integer.MAX_VALUE;

  static void run() {
    promise1NewObject();
    promise2Feed();
    promise4Child();
    promise5ChildOf();
    promise6Mind();
    promise7Sick();
    promise8Event();
    promise9DayOf();
    promise10Set();
    promise11Today();
  }

  private static void promise1NewObject() {
    CHECK.same("BAD", CrossBook.BAD, -1);
    CHECK.same("FULL", CrossBook.FULL, -2);
    CHECK.same("NONE", CrossBook.NONE, -3);
    CHECK.same("STATE", CrossBook.STATE, -4);
    CrossBook book = new CrossBook();
    for (int what = 0; what < 5; what++) {
      CHECK.same("new: many(" + what + ")", book.many(what), 0);
    }
    CHECK.same("new: again", book.again(), -3);
    CHECK.same("new: today", book.today(), 0);
    CHECK.same("new: childOf(0, 0)", book.childOf(0, 0), -1);
    CHECK.same("new: seed", book.seed(7), 1);
    for (int day = 0; day < 40; day++) {
      for (int what = 0; what < 4; what++) {
        CHECK.same("new: dayOf(" + day + ", " + what + ")", book.dayOf(day, what), what == 1 ? day % 5 : 0);
      }
    }
    for (int i = 0; i < 4; i++) {
      CHECK.same("new: item of a missing sheet", book.item(i, 0, 0), -11);
      CHECK.same("new: nothing on a shelf", book.taken(i, 0), -11);
    }
    CrossBook other = new CrossBook();
    other.child(0, 0, 0, 0);
    CHECK.same("objects are apart", book.many(0), 0);
  }

  private static void promise2Feed() {
    CrossBook book = new CrossBook();
    CHECK.same("feed 0 bytes", book.feed(1, 0), -1);
    CHECK.same("feed 9 bytes", book.feed(1, 9), -1);
    CHECK.same("feed MIN", book.feed(1, MIN), -1);
    CHECK.same("feed MAX", book.feed(1, MAX), -1);
    CHECK.same("feed none yet", book.many(3), 0);
    CHECK.same("feed 1", book.feed(-1L, 1), 1);
    CHECK.same("feed 8", book.feed(-1L, 8), 9);
    CHECK.same("tape has 9", book.many(3), 9);
    for (int i = 1; i <= 28; i++) {
      CHECK.same("feed more", book.feed(0, 8), 9 + 8 * i);
    }
    CHECK.same("233 and 8 are too many", book.feed(0, 8), -2);
    CHECK.same("a full tape stays", book.many(3), 233);
    CHECK.same("BAD ahead of FULL", book.feed(0, 9), -1);
    CHECK.same("233 and 7", book.feed(0, 7), 240);
    CHECK.same("240 and 1", book.feed(0, 1), -2);
    CHECK.same("BAD ahead of FULL", book.feed(0, 0), -1);
    CHECK.same("255 is no name", book.school(), -100);
    CHECK.same("used up", book.many(3), 0);
    // the lowest byte comes first: "ill 1 in" then " 2;"
    long first = 0;
    for (int i = 7; i >= 0; i--) {
      first = first << 8 | "ill 1 in".charAt(i);
    }
    book.feed(first, 8);
    book.feed(' ' | '2' << 8 | ';' << 16 | 'x' << 24, 3);
    CHECK.same("told", book.school(), 1);
    CHECK.same("told kind", book.childOf(0, 0), 2);
    CHECK.same("told house", book.childOf(0, 2), 2);
  }

  private static void promise4Child() {
    CrossBook book = new CrossBook();
    int[][] bad = {
      {-1, 0, 0, 0}, {6, 0, 0, 0}, {MIN, 0, 0, 0}, {MAX, 0, 0, 0},
      {0, -1, 0, 0}, {0, 10, 0, 0}, {0, MIN, 0, 0}, {0, MAX, 0, 0},
      {0, 0, -1, 0}, {0, 0, 6, 0}, {0, 0, MIN, 0}, {0, 0, MAX, 0},
      {0, 0, 0, -1}, {0, 0, 0, 10}, {0, 0, 0, MIN}, {0, 0, 0, MAX}
    };
    for (int[] b : bad) {
      CHECK.same("bad child", book.child(b[0], b[1], b[2], b[3]), -1);
    }
    CHECK.same("none came", book.many(0), 0);
    for (int i = 0; i < 8; i++) {
      CHECK.same("child " + i, book.child(i % 6, i + 1, i % 6, 9 - i), i);
    }
    CHECK.same("ninth", book.child(0, 0, 0, 0), -2);
    for (int[] b : bad) {
      CHECK.same("BAD ahead of FULL", book.child(b[0], b[1], b[2], b[3]), -1);
    }
    CHECK.same("eight", book.many(0), 8);
    for (int i = 0; i < 8; i++) {
      int[] due = {i % 6, i + 1, i % 6, 9 - i, 0, 0, 0};
      for (int what = 0; what < 7; what++) {
        CHECK.same("childOf(" + i + ", " + what + ")", book.childOf(i, what), due[what]);
      }
    }
  }

  private static void promise5ChildOf() {
    CrossBook book = new CrossBook();
    book.child(2, 3, 4, 5);
    book.sick(0, 5);
    book.knock(4);
    int[] due = {2, 3, 4, 5, 5, 5, 0};
    for (int what = 0; what < 7; what++) {
      CHECK.same("childOf(0, " + what + ")", book.childOf(0, what), due[what]);
    }
    book.days(6);
    CHECK.same("AWAY", book.childOf(0, 6), 0);
    CHECK.same("SICK", book.childOf(0, 4), 0);
    CHECK.same("KNOCK", book.childOf(0, 5), 0);
    book.sick(0, 2);
    book.days(2);
    CHECK.same("AWAY 2", book.childOf(0, 6), 2);
    book.days(1);
    CHECK.same("AWAY 0", book.childOf(0, 6), 0);
    for (int bad : new int[] {-1, 7, MIN, MAX}) {
      CHECK.same("another what", book.childOf(0, bad), -1);
    }
    for (int bad : new int[] {-1, 1, 8, MIN, MAX}) {
      CHECK.same("no such child", book.childOf(bad, 0), -1);
    }
  }

  private static void promise6Mind() {
    CrossBook book = new CrossBook();
    book.child(3, 7, 2, 8);
    book.sick(0, 4);
    CHECK.same("mind", book.mind(0, 5, 9), 3);
    CHECK.same("KIND now", book.childOf(0, 0), 5);
    CHECK.same("A now", book.childOf(0, 1), 9);
    CHECK.same("HOUSE stays", book.childOf(0, 2), 2);
    CHECK.same("FAR stays", book.childOf(0, 3), 8);
    CHECK.same("SICK stays", book.childOf(0, 4), 4);
    CHECK.same("mind back", book.mind(0, 0, 0), 5);
    for (int bad : new int[] {-1, 6, MIN, MAX}) {
      CHECK.same("bad kind", book.mind(0, bad, 0), -1);
    }
    for (int bad : new int[] {-1, 10, MIN, MAX}) {
      CHECK.same("bad a", book.mind(0, 1, bad), -1);
    }
    for (int bad : new int[] {-1, 1, MIN, MAX}) {
      CHECK.same("no such child", book.mind(bad, 1, 1), -1);
    }
    CHECK.same("stays", book.childOf(0, 0), 0);
  }

  private static void promise7Sick() {
    CrossBook book = new CrossBook();
    CHECK.same("no child", book.sick(0, 1), -1);
    book.child(0, 0, 0, 0);
    CHECK.same("sick 20", book.sick(0, 20), 0);
    CHECK.same("sick 0", book.sick(0, 0), 20);
    CHECK.same("sick 1", book.sick(0, 1), 0);
    for (int bad : new int[] {-1, 21, MIN, MAX}) {
      CHECK.same("bad days", book.sick(0, bad), -1);
    }
    for (int bad : new int[] {-1, 1, MIN, MAX}) {
      CHECK.same("no such child", book.sick(bad, 0), -1);
    }
    CHECK.same("stays", book.childOf(0, 4), 1);
  }

  private static void promise8Event() {
    CrossBook book = new CrossBook();
    CHECK.same("event 31", book.event(39, 31), 0);
    CHECK.same("event 4", book.event(39, 4), 31);
    CHECK.same("event on 0", book.event(0, 1), 0);
    CHECK.same("no event any more", book.event(0, 0), 1);
    CHECK.same("was none", book.event(0, 1), 0);
    book.days(40);
    CHECK.same("event on a day that is over", book.event(0, 2), 1);
    for (int bad : new int[] {-1, 40, MIN, MAX}) {
      CHECK.same("no such day", book.event(bad, 0), -1);
    }
    for (int bad : new int[] {-1, 32, MIN, MAX}) {
      CHECK.same("bad events", book.event(39, bad), -1);
    }
    CHECK.same("stays", book.dayOf(39, 0), 4);
  }

  private static void promise9DayOf() {
    CrossBook book = new CrossBook();
    book.child(0, 0, 0, 0);
    book.child(1, 1, 0, 0);
    book.event(1, 17);
    for (int day = 0; day < 40; day++) {
      CHECK.same("WEEKDAY", book.dayOf(day, 1), day % 5);
    }
    CHECK.same("not over: crosses", book.dayOf(1, 2), 0);
    CHECK.same("not over: truly", book.dayOf(1, 3), 0);
    book.days(2);
    CHECK.same("EVENTS", book.dayOf(1, 0), 17);
    CHECK.same("day 0 crosses", book.dayOf(0, 2), 3);
    CHECK.same("day 1 crosses", book.dayOf(1, 2), 1);
    CHECK.same("day 1 truly", book.dayOf(1, 3), 1);
    book.write(1, 0, false);
    book.write(1, 1, true);
    CHECK.same("written crosses", book.dayOf(1, 2), 2);
    CHECK.same("truly stays", book.dayOf(1, 3), 1);
    CHECK.same("not over: crosses", book.dayOf(2, 2), 0);
    CHECK.same("not over: truly", book.dayOf(2, 3), 0);
    for (int bad : new int[] {-1, 40, MIN, MAX}) {
      CHECK.same("no such day", book.dayOf(bad, 0), -1);
    }
    for (int bad : new int[] {-1, 4, MIN, MAX}) {
      CHECK.same("another what", book.dayOf(0, bad), -1);
    }
  }

  private static void promise10Set() {
    CrossBook book = new CrossBook();
    int[] first = {5, 11, 2, 3};
    int[] lowest = {1, 2, 1, 1};
    int[] highest = {20, 30, 8, 20};
    for (int law = 0; law < 4; law++) {
      CHECK.same("below law " + law, book.set(law, lowest[law] - 1), -1);
      CHECK.same("above law " + law, book.set(law, highest[law] + 1), -1);
      CHECK.same("MIN", book.set(law, MIN), -1);
      CHECK.same("MAX", book.set(law, MAX), -1);
      CHECK.same("lowest of law " + law, book.set(law, lowest[law]), first[law]);
      CHECK.same("highest of law " + law, book.set(law, highest[law]), lowest[law]);
      CHECK.same("law " + law + " was", book.set(law, first[law]), highest[law]);
    }
    for (int bad : new int[] {-1, 4, MIN, MAX}) {
      CHECK.same("no such law", book.set(bad, 5), -1);
    }
  }

  private static void promise11Today() {
    CrossBook book = new CrossBook();
    CHECK.same("at first", book.today(), 0);
    book.days(3);
    CHECK.same("3 gone", book.today(), 3);
    book.days(40);
    CHECK.same("in the end", book.today(), 40);
    Check.school(book, "today 7;");
    CHECK.same("told", book.today(), 7);
  }
}
