/** The sentences on who would be away, on days that go and on what is written (section 1), and promises 12 to 18. */
final class DayEdges extends Edge {
  static void run() {
    never();
    childAndKept();
    barefoot();
    illAndCatching();
    truant();
    dayGoes();
    oneLess();
    touched();
    written();
    promises12And13();
    promise14();
    promise15();
    promises16And17();
    promise18();
  }

  private static void never() {
    term("WOULD a CHILD be away on a DAY (with KNOCK above 0, or with the inspector: never, but in a flood with FAR above 5)",
        () -> {
      for (int kind = 0; kind < 6; kind++) {
        int all = PAPER | HERRING | CIRCUS;
        CrossBook book = one(0, kind, 5, 6);
        book.sick(0, 20);
        book.event(0, all);
        same("kind " + kind + ", nothing keeps it away from staying away", book.would(0), kind == CHILD ? 0 : 1);
        book.event(0, all | INSPECTOR);
        same("kind " + kind + ", with the inspector", book.would(0), 0);
        book.event(0, all | INSPECTOR | FLOOD);
        same("kind " + kind + ", with the inspector in a flood, FAR 6", book.would(0), 1);
        book.knock(0);
        same("kind " + kind + ", with both in a flood, FAR 6", book.would(0), 1);
        book.event(0, all | FLOOD);
        same("kind " + kind + ", with KNOCK in a flood, FAR 6", book.would(0), 1);
        book.event(0, all);
        same("kind " + kind + ", with KNOCK 5", book.would(0), 0);
        book.days(4);
        book.event(4, all);
        same("kind " + kind + ", with KNOCK 1", book.would(0), 0);
        book.days(1);
        book.event(5, all);
        same("kind " + kind + ", with KNOCK 0", book.would(0), kind == CHILD ? 0 : 1);
        same("kind " + kind + ", in a flood with the inspector, FAR 5", wouldOn(0, kind, 5, 5, 31), 0);
      }
    });
  }

  private static void childAndKept() {
    term("child: in a flood with FAR above 5.", () -> {
      for (int far = 0; far < 10; far++) {
        same("FAR " + far + " in a flood", wouldOn(0, CHILD, 5, far, FLOOD), far > 5 ? 1 : 0);
        same("FAR " + far + " with all but that", wouldOn(0, CHILD, 5, far, PAPER | HERRING | CIRCUS), 0);
      }
      CrossBook sick = illIn(0);
      sick.mind(0, CHILD, 0);
      same("SICK", sick.would(0), 0);
      same("AWAY as long as LOST", awayFor(11, CHILD, 0).would(0), 0);
    });
    term("kept: as a child, and with herring, and on the WEEKDAY that is A modulo 5.", () -> {
      same("as a child", wouldOn(1, KEPT, 0, 6, FLOOD), 1);
      same("as a child, FAR 5", wouldOn(1, KEPT, 0, 5, FLOOD), 0);
      same("with herring", wouldOn(1, KEPT, 0, 0, HERRING), 1);
      same("with paper and circus", wouldOn(1, KEPT, 0, 0, PAPER | CIRCUS), 0);
      for (int a = 0; a < 10; a++) {
        for (int day = 0; day < 40; day += 3) {
          same("A " + a + " on day " + day, wouldOn(day, KEPT, a, 0, 0), (a - day) % 5 == 0 ? 1 : 0);
        }
      }
      CrossBook sick = illIn(0);
      sick.mind(0, KEPT, 1);
      same("SICK", sick.would(0), 0);
      same("AWAY as long as LOST", awayFor(11, KEPT, 0).would(0), 0);
    });
  }

  private static void barefoot() {
    term("barefoot: as one that is kept, and if DAY and A is odd.", () -> {
      same("as a child", wouldOn(1, BAREFOOT, 3, 6, FLOOD), 1);
      same("with herring", wouldOn(1, BAREFOOT, 3, 0, HERRING), 1);
      same("with paper and circus", wouldOn(1, BAREFOOT, 3, 0, PAPER | CIRCUS), 0);
      same("on its WEEKDAY", wouldOn(7, BAREFOOT, 7, 0, 0), 1);
      same("both odd", wouldOn(1, BAREFOOT, 3, 0, 0), 0);
      same("both even", wouldOn(2, BAREFOOT, 0, 0, 0), 0);
      same("DAY odd, A even", wouldOn(1, BAREFOOT, 0, 0, 0), 1);
      same("DAY even, A odd", wouldOn(0, BAREFOOT, 9, 0, 0), 1);
      same("DAY 39, A 8", wouldOn(39, BAREFOOT, 8, 0, 0), 1);
      same("DAY 39, A 1", wouldOn(39, BAREFOOT, 1, 0, 0), 0);
      same("DAY odd, A even, but kept alone", wouldOn(1, KEPT, 0, 0, 0), 0);
    });
  }

  private static void illAndCatching() {
    term("ill: as a child, and if SICK is above 0.", () -> {
      same("as a child", wouldOn(0, ILL, 0, 6, FLOOD), 1);
      same("as a child, FAR 5", wouldOn(0, ILL, 0, 5, FLOOD), 0);
      same("SICK 0, with all", wouldOn(0, ILL, 5, 0, PAPER | HERRING | CIRCUS), 0);
      CrossBook book = one(0, ILL, 0, 0);
      book.sick(0, 1);
      same("SICK 1", book.would(0), 1);
      same("AWAY as long as LOST", awayFor(11, ILL, 0).would(0), 0);
    });
    term("catching: as one that is ill, and on a paper DAY.", () -> {
      same("as a child", wouldOn(0, CATCHING, 0, 6, FLOOD), 1);
      same("with paper", wouldOn(0, CATCHING, 0, 0, PAPER), 1);
      same("with herring and circus", wouldOn(0, CATCHING, 5, 0, HERRING | CIRCUS), 0);
      CrossBook book = one(0, CATCHING, 0, 0);
      same("SICK 0", book.would(0), 0);
      book.sick(0, 1);
      same("SICK 1", book.would(0), 1);
      same("ill alone with paper", wouldOn(0, ILL, 0, 0, PAPER), 0);
    });
  }

  private static void truant() {
    term("truant: as a child, and on a paper DAY, with a circus, on WEEKDAYS 0 and 4 if A is 5 or more, "
        + "and if AWAY is LOST or more.", () -> {
      same("as a child", wouldOn(1, TRUANT, 0, 6, FLOOD), 1);
      same("as a child, FAR 5", wouldOn(1, TRUANT, 0, 5, FLOOD), 0);
      same("with paper", wouldOn(1, TRUANT, 0, 0, PAPER), 1);
      same("with a circus", wouldOn(1, TRUANT, 0, 0, CIRCUS), 1);
      same("with herring", wouldOn(1, TRUANT, 0, 0, HERRING), 0);
      for (int day = 35; day < 40; day++) {
        same("A 4 on day " + day, wouldOn(day, TRUANT, 4, 0, 0), 0);
        same("A 5 on day " + day, wouldOn(day, TRUANT, 5, 0, 0), day == 35 || day == 39 ? 1 : 0);
        same("A 9 on day " + day, wouldOn(day, TRUANT, 9, 0, 0), day == 35 || day == 39 ? 1 : 0);
      }
      CrossBook sick = illIn(0);
      sick.mind(0, TRUANT, 0);
      same("SICK", sick.would(0), 0);
      CrossBook book = awayFor(3, TRUANT, 0);
      book.set(LOST, 4);
      same("AWAY 1 below LOST", book.would(0), 0);
      book.set(LOST, 3);
      same("AWAY is LOST", book.would(0), 1);
      book.set(LOST, 2);
      same("AWAY above LOST", book.would(0), 1);
      book.event(3, INSPECTOR);
      same("AWAY above LOST, with the inspector", book.would(0), 0);
    });
  }

  private static void dayGoes() {
    term("A DAY goes (TODAY is 1 more): first all that is told by who WOULD be away, as all stands ahead of it", () -> {
      CrossBook book = illIn(0, 1, 2);
      book.sick(0, 1);
      book.set(STRONG, 1);
      book.knock(1);
      same("TODAY", book.days(1), 1);
      same("SICK 1 ahead: away; KNOCK 1 ahead: there; SICK: away", book.dayOf(0, 3), 2);
      book.sick(0, 20);
      book.mind(0, TRUANT, 5);
      book.set(LOST, 2);
      same("TODAY", book.days(1), 2);
      same("a truant once away isn't lost by two", book.dayOf(1, 3), 1);
      CrossBook catching = new CrossBook();
      catching.set(TOUCH, 1);
      catching.child(ILL, 0, 0, 0);
      catching.child(CATCHING, 0, 0, 0);
      catching.sick(0, 1);
      catching.days(2);
      same("there on the DAY that touches it", catching.dayOf(0, 3), 2);
      same("away on the next", catching.dayOf(1, 3), 1);
    });
    term("the BOOK has a CROSS for each who is there.", () -> {
      CrossBook book = illIn(0, 0, 0, 0, 0, 0, 0, 0);
      for (int child = 0; child < 8; child += 7) {
        book.sick(child, 0);
      }
      book.days(1);
      same("CROSSES", book.dayOf(0, 2), 129);
      same("in all", book.many(1), 2);
      CrossBook empty = new CrossBook();
      empty.days(40);
      same("CROSSES of an empty school", empty.many(1), 0);
    });
    term("AWAY is 1 more of those away, else 0.", () -> {
      CrossBook book = illIn(0, 0);
      book.sick(1, 2);
      int[][] due = {{1, 1}, {2, 2}, {3, 0}, {4, 0}};
      for (int[] away : due) {
        book.days(1);
        same("AWAY of one who is away", book.childOf(0, 6), away[0]);
        same("AWAY of one who comes again", book.childOf(1, 6), away[1]);
      }
    });
  }

  private static void oneLess() {
    term("SICK and KNOCK are 1 less (0 at least).", () -> {
      CrossBook book = illIn(0, 1);
      book.mind(1, CHILD, 0);
      book.sick(1, 1);
      book.set(STRONG, 2);
      book.knock(0);
      int[][] due = {{19, 1, 0, 0}, {18, 0, 0, 0}, {17, 0, 0, 0}};
      for (int[] left : due) {
        book.days(1);
        same("SICK of one who is ill", book.childOf(0, 4), left[0]);
        same("KNOCK", book.childOf(0, 5), left[1]);
        same("SICK of a child", book.childOf(1, 4), left[2]);
        same("KNOCK of one without", book.childOf(1, 5), left[3]);
      }
    });
    term("Then each catching one who isn't SICK gets SICK for SPELL DAYS", () -> {
      for (int kind = 0; kind < 6; kind++) {
        CrossBook book = new CrossBook();
        book.set(SPELL, 9);
        book.child(kind, 0, 0, 0);
        book.sick(book.child(ILL, 0, 0, 0), 3);
        book.sick(book.child(CHILD, 0, 0, 0), 3);
        book.days(1);
        same("kind " + kind, book.childOf(0, 4), kind == CATCHING ? 9 : 0);
        book.days(1);
        same("kind " + kind + ", a DAY later", book.childOf(0, 4), kind == CATCHING ? 8 : 0);
      }
      for (int sick = 0; sick <= 3; sick++) {
        CrossBook book = illIn(0, 0, 0);
        book.mind(0, CATCHING, 0);
        book.sick(0, sick);
        book.days(1);
        same("SICK " + sick + " ahead", book.childOf(0, 4), sick <= 1 ? 3 : sick - 1);
      }
    });
  }

  /** SICK behind a day of a catching one, with as many as told who are ill near it and elsewhere. */
  private static int caught(int touch, int own, int near, int elsewhere) {
    CrossBook book = new CrossBook();
    book.set(TOUCH, touch);
    for (int i = 0; i < elsewhere; i++) {
      book.sick(book.child(CHILD, 0, 1 + i % 2, 0), 1);
    }
    int child = book.child(CATCHING, 0, 0, 0);
    book.sick(child, own);
    for (int i = 0; i < near; i++) {
      book.sick(book.child(TRUANT, 0, 0, 0), 1);
    }
    book.days(1);
    return book.childOf(child, 4);
  }

  private static void touched() {
    term("if TOUCH or more others of the same HOUSE", () -> {
      for (int touch = 1; touch <= 3; touch++) {
        for (int near = 0; near <= 3; near++) {
          same("TOUCH " + touch + ", others " + near, caught(touch, 0, near, 0), near >= touch ? 3 : 0);
          same("TOUCH " + touch + ", others " + near + " and itself", caught(touch, 1, near, 0), near >= touch ? 3 : 0);
        }
        same("TOUCH " + touch + ", as many in other HOUSES", caught(touch, 0, touch - 1, 4 - touch), 0);
      }
    });
    term("or 4 or more others in all", () -> {
      same("3 others, itself too", caught(8, 1, 0, 3), 0);
      same("4 others elsewhere", caught(8, 0, 0, 4), 3);
      same("3 others here and there", caught(8, 0, 2, 1), 0);
      same("4 others here and there", caught(8, 0, 2, 2), 3);
      same("4 others here, below TOUCH", caught(8, 0, 4, 0), 3);
      same("7 others", caught(8, 0, 3, 4), 3);
    });
    term("were SICK ahead of that DAY.", () -> {
      // the first is touched by the ill one of its house; with it four would be sick beside the last
      CrossBook book = new CrossBook();
      book.set(TOUCH, 1);
      book.child(CATCHING, 0, 0, 0);
      for (int house : new int[] {0, 1, 1}) {
        book.sick(book.child(ILL, 0, house, 0), 2);
      }
      book.child(CATCHING, 0, 2, 0);
      book.days(1);
      same("SICK of the first", book.childOf(0, 4), 3);
      same("SICK of the last: three were", book.childOf(4, 4), 0);
      book.days(1);
      same("SICK of the last: four were, three no more", book.childOf(4, 4), 3);
      CrossBook last = illIn(0, 0);
      last.sick(0, 0);
      last.mind(0, CATCHING, 0);
      last.sick(1, 1);
      last.set(TOUCH, 1);
      last.days(1);
      same("one was SICK for the last DAY", last.childOf(0, 4), 3);
      last.sick(0, 0);
      last.days(1);
      same("nobody was", last.childOf(0, 4), 0);
    });
  }

  private static void written() {
    term("WRITTEN: a CROSS may be put into THE BOOK (or out of it) for a DAY that is over", () -> {
      CrossBook book = illIn(0);
      same("DAY 0 as TODAY", book.write(0, 0, true), BAD);
      book.days(1);
      same("into DAY 0", book.write(0, 0, true), 1);
      same("CROSSES", book.dayOf(0, 2), 1);
      same("out of DAY 0", book.write(0, 0, false), 1);
      same("CROSSES", book.dayOf(0, 2), 0);
      same("DAY 1 as TODAY", book.write(1, 0, true), BAD);
      book.days(40);
      same("out of DAY 39", book.write(39, 0, false), 1);
      same("DAY 40", book.write(40, 0, true), BAD);
    });
    term("FALSE CROSSES are those for one who was away", () -> {
      CrossBook book = illIn(0, 0);
      book.sick(1, 0);
      book.days(2);
      same("none", book.wrong(0), 0);
      book.write(0, 0, true);
      book.write(1, 0, true);
      book.write(1, 1, true);
      same("two", book.wrong(0), 2);
      same("none is LOST", book.wrong(1), 0);
      book.child(CHILD, 0, 0, 0);
      book.write(0, 2, true);
      same("one for a child that came later", book.wrong(0), 3);
      book.write(0, 0, false);
      same("one less", book.wrong(0), 2);
    });
    term("LOST ones lack for one who was there.", () -> {
      CrossBook book = illIn(0, 0);
      book.sick(1, 0);
      book.days(2);
      same("none", book.wrong(1), 0);
      book.write(0, 1, false);
      book.write(1, 1, false);
      book.write(1, 0, false);
      same("two", book.wrong(1), 2);
      same("none is FALSE", book.wrong(0), 0);
      book.write(0, 1, true);
      same("one", book.wrong(1), 1);
    });
  }

  private static void promises12And13() {
    promise(12, "Whether a CHILD would be away today: 1, 0.", () -> {
      CrossBook book = illIn(0, 0);
      book.sick(0, 0);
      same("there", book.would(0), 0);
      same("away", book.would(1), 1);
      same("TODAY", book.today(), 0);
    });
    promise(12, "BAD", () -> {
      refusedOutside(0, 2, "would", illIn(0, 0, 0)::would);
      same("would(0) in an empty school", new CrossBook().would(0), BAD);
    });
    promise(12, "STATE: TODAY is 40.", () -> {
      CrossBook book = illIn(0);
      book.days(39);
      same("TODAY 39", book.would(0), 0);
      book.days(1);
      same("TODAY 40", book.would(0), STATE);
    });
    promise(13, "n DAYS (0 to 40) go, as far as there are such: TODAY then.", () -> {
      CrossBook book = illIn(0);
      same("days(0)", book.days(0), 0);
      same("SICK behind no DAY", book.childOf(0, 4), 20);
      same("days(1)", book.days(1), 1);
      same("days(38)", book.days(38), 39);
      same("days(2)", book.days(2), 40);
      same("days(40)", book.days(40), 40);
      same("days(0)", book.days(0), 40);
      same("CROSSES", book.many(1), 20);
      CrossBook all = illIn(0);
      same("all at once", all.days(40), 40);
      same("CROSSES", all.many(1), 20);
      same("AWAY stays behind the end", illAllAlong().childOf(0, 6), 20);
    });
    promise(13, "BAD.", () -> {
      CrossBook book = new CrossBook();
      refusedOutside(0, 40, "days", book::days);
      same("TODAY", book.today(), 0);
    });
  }

  /** One who has been ill for the last 20 days, and still is when no more days go. */
  private static CrossBook illAllAlong() {
    CrossBook book = one(20, ILL, 0, 0);
    book.sick(0, 20);
    book.days(40);
    book.sick(0, 20);
    book.knock(0);
    book.days(40);
    same("SICK stays behind the end", book.childOf(0, 4), 20);
    same("KNOCK stays behind the end", book.childOf(0, 5), 5);
    return book;
  }

  private static void promise14() {
    promise(14, "ONE KNOCKS: how many CHILDREN are in it.", () -> {
      CrossBook book = illIn(0, 5, 0, 0, 0, 0, 0, 0);
      same("knock(0)", book.knock(0), 7);
      same("knock(5)", book.knock(5), 1);
      same("knock(3), where nobody is", book.knock(3), 0);
      same("KNOCK", book.childOf(7, 5), 5);
      same("in an empty school", new CrossBook().knock(0), 0);
      book.days(40);
      same("in the end", book.knock(0), 7);
    });
    promise(14, "BAD.", () -> {
      CrossBook book = illIn(0, 5);
      refusedOutside(0, 5, "knock", book::knock);
      same("KNOCK stays", book.childOf(1, 5), 0);
    });
  }

  private static void promise15() {
    promise(15, "A CROSS is put in, or out: 1 if that is new, else 0.", () -> {
      CrossBook book = illIn(0, 0, 0, 0, 0, 0, 0, 0);
      book.days(20);
      for (int child = 0; child < 8; child += 7) {
        same("out, none there", book.write(19, child, false), 0);
        same("in", book.write(19, child, true), 1);
        same("in again", book.write(19, child, true), 0);
      }
      same("CROSSES", book.dayOf(19, 2), 129);
      same("out", book.write(19, 0, false), 1);
      same("out again", book.write(19, 0, false), 0);
      same("CROSSES", book.dayOf(19, 2), 128);
      same("CROSSES of the DAY ahead", book.dayOf(18, 2), 0);
    });
    promise(15, "BAD: also a DAY that isn't over.", () -> {
      CrossBook book = illIn(0, 0);
      book.days(3);
      refusedOutside(0, 2, "DAY", day -> book.write(day, 0, true));
      refusedOutside(0, 1, "CHILD", child -> book.write(0, child, true));
      same("the last DAY that is over", book.write(2, 0, true), 1);
      same("DAY 39", book.write(39, 0, true), BAD);
      book.days(40);
      refusedOutside(0, 39, "DAY in the end", day -> book.write(day, 0, false));
      same("DAY 39, over", book.write(39, 0, false), 1);
    });
  }

  private static void promises16And17() {
    promise(16, "CROSSES of a CHILD in THE BOOK.", () -> {
      CrossBook book = illIn(0, 0);
      same("of no DAYS", book.marks(1), 0);
      book.sick(1, 0);
      book.days(20);
      same("of one away all the time", book.marks(0), 0);
      same("of one there all the time", book.marks(1), 20);
      book.write(0, 0, true);
      book.write(19, 1, false);
      same("with a FALSE one", book.marks(0), 1);
      same("without a LOST one", book.marks(1), 19);
      book.days(20);
      same("in the end", book.marks(1), 39);
    });
    promise(16, "BAD.", () -> refusedOutside(0, 1, "marks", illIn(0, 0)::marks));
    promise(17, "What = 0 FALSE CROSSES, 1 LOST ones, 2 the first DAY with one of either (-9: none).", () -> {
      CrossBook book = illIn(0, 0);
      book.sick(1, 0);
      same("no DAY is over", book.wrong(2), NOT_FOUND);
      book.days(10);
      same("all is as it was", book.wrong(2), NOT_FOUND);
      book.write(9, 0, true);
      same("a FALSE one on DAY 9", book.wrong(2), 9);
      book.write(8, 1, false);
      same("a LOST one on DAY 8", book.wrong(2), 8);
      book.write(7, 1, false);
      same("FALSE ones", book.wrong(0), 1);
      same("LOST ones", book.wrong(1), 2);
      book.write(0, 0, true);
      same("a FALSE one on DAY 0", book.wrong(2), 0);
    });
    promise(17, "BAD.", () -> refusedOutside(0, 2, "wrong", illIn(0)::wrong));
  }

  private static void promise18() {
    promise(18, "The most DAYS in a row without a CROSS of a CHILD in THE BOOK (of DAYS that are over).", () -> {
      CrossBook book = illIn(0, 0);
      same("no DAY is over", book.longest(0), 0);
      book.sick(0, 5);
      book.days(9);
      same("the first 5", book.longest(0), 5);
      same("none", book.longest(1), 9);
      for (int day = 0; day < 9; day++) {
        book.write(day, 1, true);
      }
      same("a CROSS on each", book.longest(1), 0);
      book.write(8, 1, false);
      same("the last alone, DAYS to come don't count", book.longest(1), 1);
      book.write(2, 0, true);
      same("2 and 2", book.longest(0), 2);
      book.write(5, 0, false);
      same("2 and 3", book.longest(0), 3);
      CrossBook all = new CrossBook();
      all.days(40);
      all.child(CHILD, 0, 0, 0);
      same("all of 40", all.longest(0), 40);
    });
    promise(18, "BAD.", () -> refusedOutside(0, 1, "longest", illIn(0, 0)::longest));
  }
}
