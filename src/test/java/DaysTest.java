/** Promises 12 to 18: who would be away, days that go, knocks, the book. */
final class DaysTest {
  private static final Check CHECK = new Check("DaysTest");
  private static final int MIN = Integer.MIN_VALUE, MAX = Integer.MAX_VALUE;
  private static final int CHILD = 0, KEPT = 1, ILL = 2, TRUANT = 3, BAREFOOT = 4, CATCHING = 5;

  static void run() {
    promise12WouldByEvents();
    promise12WouldByKnock();
    promise12WouldByDay();
    promise12WouldBySickAndAway();
    promise12Refusals();
    promise13Days();
    promise13Catching();
    promise14Knock();
    promise15Write();
    promise16Marks();
    promise17Wrong();
    promise18Longest();
  }

  /** A school of one child on Wednesday, day 2. */
  private static CrossBook one(int kind, int a, int far, int events) {
    CrossBook book = new CrossBook();
    Check.school(book, "today 2;");
    book.child(kind, a, 0, far);
    book.event(2, events);
    return book;
  }

  private static void promise12WouldByEvents() {
    // for each kind a bit for each of 32 sets of events, with FAR 5 and A 0
    boolean[][] away = new boolean[6][32];
    for (int events = 0; events < 32; events++) {
      boolean inspector = (events & 8) != 0;
      boolean herring = (events & 2) != 0;
      boolean paper = (events & 1) != 0;
      boolean circus = (events & 4) != 0;
      away[KEPT][events] = herring && !inspector;
      away[BAREFOOT][events] = herring && !inspector;
      away[CATCHING][events] = paper && !inspector;
      away[TRUANT][events] = (paper || circus) && !inspector;
    }
    for (int kind = 0; kind < 6; kind++) {
      for (int events = 0; events < 32; events++) {
        String of = "would of kind " + kind + ", events " + events;
        CHECK.same(of, one(kind, 0, 5, events).would(0), away[kind][events] ? 1 : 0);
        boolean flood = (events & 16) != 0;
        CHECK.same(of + ", far", one(kind, 0, 6, events).would(0), flood || away[kind][events] ? 1 : 0);
      }
    }
  }

  private static void promise12WouldByKnock() {
    for (int kind = 0; kind < 6; kind++) {
      CrossBook book = one(kind, 7, 5, 1 | 2 | 4 | 16);
      book.sick(0, 3);
      CHECK.same("kind " + kind, book.would(0), kind == CHILD ? 0 : 1);
      book.knock(0);
      CHECK.same("knocked, kind " + kind, book.would(0), 0);
      CrossBook far = one(kind, 7, 6, 16);
      far.knock(0);
      CHECK.same("knocked, but far in a flood, kind " + kind, far.would(0), 1);
    }
  }

  private static void promise12WouldByDay() {
    for (int a = 0; a < 10; a++) {
      for (int kind = 0; kind < 6; kind++) {
        CrossBook book = new CrossBook();
        book.set(1, 30);
        book.child(kind, a, 0, 0);
        for (int day = 0; day < 40; day++) {
          int weekday = day % 5;
          boolean due = false;
          if (kind == KEPT || kind == BAREFOOT) {
            due = weekday == a % 5;
          }
          if (kind == BAREFOOT && (day + a) % 2 == 1) {
            due = true;
          }
          if (kind == TRUANT && a >= 5 && (weekday == 0 || weekday == 4)) {
            due = true;
          }
          CHECK.same("kind " + kind + ", A " + a + ", day " + day, book.would(0), due ? 1 : 0);
          book.days(1);
        }
      }
    }
  }

  private static void promise12WouldBySickAndAway() {
    for (int kind = 0; kind < 6; kind++) {
      CrossBook book = one(kind, 0, 0, 0);
      book.sick(0, 1);
      CHECK.same("sick, kind " + kind, book.would(0), kind == ILL || kind == CATCHING ? 1 : 0);
      CrossBook lost = new CrossBook();
      lost.set(1, 2);
      lost.child(ILL, 1, 0, 0);
      lost.sick(0, 2);
      lost.days(1);
      lost.mind(0, kind, 1);
      lost.sick(0, 0);
      lost.event(1, 0);
      CHECK.same("away for 1, kind " + kind, lost.would(0), kind == KEPT || kind == BAREFOOT ? 1 : 0);
      lost.mind(0, ILL, 1);
      lost.sick(0, 1);
      lost.days(1);
      lost.mind(0, kind, 0);
      CHECK.same("away for 2", lost.childOf(0, 6), 2);
      CHECK.same("away for 2, kind " + kind, lost.would(0), kind == TRUANT ? 1 : 0);
      lost.event(2, 8);
      CHECK.same("the inspector, kind " + kind, lost.would(0), 0);
    }
  }

  private static void promise12Refusals() {
    CrossBook book = new CrossBook();
    CHECK.same("no child", book.would(0), -1);
    book.child(0, 0, 0, 0);
    for (int bad : new int[] {-1, 1, MIN, MAX}) {
      CHECK.same("no such child", book.would(bad), -1);
    }
    book.days(39);
    CHECK.same("day 39", book.would(0), 0);
    book.days(1);
    CHECK.same("day 40", book.would(0), -4);
    CHECK.same("BAD ahead of STATE", book.would(1), -1);
  }

  private static void promise13Days() {
    CrossBook book = new CrossBook();
    book.child(CHILD, 0, 0, 6);
    book.child(ILL, 0, 1, 0);
    book.sick(0, 1);
    book.sick(1, 2);
    book.event(1, 16);
    book.knock(0);
    for (int bad : new int[] {-1, 41, MIN, MAX}) {
      CHECK.same("bad days", book.days(bad), -1);
    }
    CHECK.same("no day", book.days(0), 0);
    CHECK.same("a day", book.days(1), 1);
    CHECK.same("there on day 0", book.dayOf(0, 3), 1);
    CHECK.same("SICK of 0", book.childOf(0, 4), 0);
    CHECK.same("SICK of 1", book.childOf(1, 4), 1);
    CHECK.same("KNOCK of 0", book.childOf(0, 5), 4);
    CHECK.same("KNOCK of 1", book.childOf(1, 5), 0);
    CHECK.same("AWAY of 1", book.childOf(1, 6), 1);
    CHECK.same("a day more", book.days(1), 2);
    CHECK.same("there on day 1", book.dayOf(1, 2), 0);
    CHECK.same("AWAY of 0", book.childOf(0, 6), 1);
    CHECK.same("AWAY of 1", book.childOf(1, 6), 2);
    CHECK.same("the rest", book.days(37), 39);
    CHECK.same("AWAY ends", book.childOf(1, 6), 0);
    CHECK.same("as far as there are such", book.days(40), 40);
    CHECK.same("no more", book.days(40), 40);
    CHECK.same("crosses", book.many(1), 39 + 38);
  }

  private static void promise13Catching() {
    for (int touch = 1; touch <= 4; touch++) {
      for (int near = 0; near <= 4; near++) {
        for (int other = 0; other <= 3; other++) {
          CrossBook book = new CrossBook();
          book.set(2, touch);
          book.set(3, 7);
          book.child(CATCHING, 0, 0, 0);
          for (int i = 0; i < near; i++) {
            book.sick(book.child(i, 0, 0, 0), 1);
          }
          for (int i = 0; i < other; i++) {
            book.sick(book.child(ILL, 0, 1, 0), 1);
          }
          book.days(1);
          boolean caught = near >= touch || near + other >= 4;
          CHECK.same("touch " + touch + ", near " + near + ", others " + other, book.childOf(0, 4), caught ? 7 : 0);
        }
      }
    }
    CrossBook book = new CrossBook();
    book.set(2, 1);
    book.child(CATCHING, 0, 0, 0);
    book.child(CATCHING, 0, 0, 0);
    book.child(CHILD, 0, 0, 0);
    book.sick(0, 1);
    book.days(1);
    CHECK.same("oneself doesn't touch", book.childOf(0, 4), 0);
    CHECK.same("touched by one who is well behind the day", book.childOf(1, 4), 3);
    CHECK.same("no catching one", book.childOf(2, 4), 0);
    book.days(1);
    CHECK.same("touched back", book.childOf(0, 4), 3);
    CHECK.same("one less", book.childOf(1, 4), 2);
    book.sick(1, 1);
    book.days(1);
    CHECK.same("well and touched on one day", book.childOf(1, 4), 3);
  }

  private static void promise14Knock() {
    CrossBook book = new CrossBook();
    book.child(0, 0, 0, 0);
    book.child(0, 0, 5, 0);
    book.child(0, 0, 0, 0);
    for (int bad : new int[] {-1, 6, MIN, MAX}) {
      CHECK.same("no such house", book.knock(bad), -1);
    }
    CHECK.same("two", book.knock(0), 2);
    CHECK.same("one", book.knock(5), 1);
    CHECK.same("nobody", book.knock(1), 0);
    CHECK.same("KNOCK", book.childOf(2, 5), 5);
    book.set(0, 2);
    CHECK.same("knock again", book.knock(0), 2);
    CHECK.same("it becomes STRONG, less too", book.childOf(0, 5), 2);
    CHECK.same("another house's stays", book.childOf(1, 5), 5);
    book.days(40);
    CHECK.same("in the end", book.knock(0), 2);
    CHECK.same("KNOCK in the end", book.childOf(0, 5), 2);
  }

  private static void promise15Write() {
    CrossBook book = new CrossBook();
    book.child(0, 0, 0, 0);
    CHECK.same("no day is over", book.write(0, 0, true), -1);
    book.days(2);
    CHECK.same("there is one", book.write(1, 0, true), 0);
    CHECK.same("out", book.write(1, 0, false), 1);
    CHECK.same("out already", book.write(1, 0, false), 0);
    CHECK.same("none", book.dayOf(1, 2), 0);
    CHECK.same("in", book.write(1, 0, true), 1);
    CHECK.same("a cross", book.dayOf(1, 2), 1);
    for (int bad : new int[] {-1, 2, 39, 40, MIN, MAX}) {
      CHECK.same("no day that is over", book.write(bad, 0, false), -1);
    }
    for (int bad : new int[] {-1, 1, 8, MIN, MAX}) {
      CHECK.same("no such child", book.write(0, bad, true), -1);
    }
    CHECK.same("one cross each day", book.many(1), 2);
  }

  private static void promise16Marks() {
    CrossBook book = new CrossBook();
    book.child(KEPT, 0, 0, 0);
    book.child(CHILD, 0, 0, 0);
    CHECK.same("none", book.marks(0), 0);
    book.days(10);
    CHECK.same("kept", book.marks(0), 8);
    CHECK.same("child", book.marks(1), 10);
    book.write(3, 1, false);
    book.write(0, 0, true);
    CHECK.same("kept", book.marks(0), 9);
    CHECK.same("child", book.marks(1), 9);
    for (int bad : new int[] {-1, 2, MIN, MAX}) {
      CHECK.same("no such child", book.marks(bad), -1);
    }
  }

  private static void promise17Wrong() {
    CrossBook book = new CrossBook();
    book.child(KEPT, 0, 0, 0);
    book.child(CHILD, 0, 0, 0);
    CHECK.same("no day", book.wrong(2), -9);
    book.days(11);
    CHECK.same("none false", book.wrong(0), 0);
    CHECK.same("none lost", book.wrong(1), 0);
    CHECK.same("none", book.wrong(2), -9);
    book.write(10, 0, true);
    CHECK.same("a false one", book.wrong(0), 1);
    CHECK.same("on day 10", book.wrong(2), 10);
    book.write(9, 1, false);
    book.write(8, 1, false);
    CHECK.same("one false", book.wrong(0), 1);
    CHECK.same("two lost", book.wrong(1), 2);
    CHECK.same("from day 8", book.wrong(2), 8);
    book.write(0, 0, true);
    CHECK.same("two false", book.wrong(0), 2);
    CHECK.same("from day 0", book.wrong(2), 0);
    book.mind(0, CHILD, 0);
    CHECK.same("who was away stays", book.wrong(0), 2);
    for (int bad : new int[] {-1, 3, MIN, MAX}) {
      CHECK.same("another what", book.wrong(bad), -1);
    }
  }

  private static void promise18Longest() {
    CrossBook book = new CrossBook();
    book.child(ILL, 0, 0, 0);
    book.child(CHILD, 0, 0, 0);
    CHECK.same("no day", book.longest(0), 0);
    book.sick(0, 4);
    book.days(10);
    CHECK.same("ill", book.longest(0), 4);
    CHECK.same("child", book.longest(1), 0);
    for (int day = 5; day < 10; day++) {
      book.write(day, 0, false);
    }
    CHECK.same("the last five", book.longest(0), 5);
    book.write(4, 0, false);
    CHECK.same("all ten", book.longest(0), 10);
    book.write(3, 0, true);
    CHECK.same("parted", book.longest(0), 6);
    CHECK.same("one that comes later", book.child(0, 0, 0, 0), 2);
    CHECK.same("has none of ten", book.longest(2), 10);
    for (int bad : new int[] {-1, 3, MIN, MAX}) {
      CHECK.same("no such child", book.longest(bad), -1);
    }
  }
}
