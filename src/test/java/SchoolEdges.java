/** The sentences on days, children and laws (section 1), and promises 1, 2 and 4 to 11. */
final class SchoolEdges extends Edge {
  static void run() {
    days();
    children();
    features();
    countedDown();
    laws();
    lawsAtTheirEnds();
    promise1();
    promise2();
    promise4();
    promise5();
    promise6();
    promises7And8();
    promise9();
    promises10And11();
  }

  private static void days() {
    term("1 THE SCHOOL: DAYS 0 to 39", () -> {
      CrossBook book = new CrossBook();
      same("event(0, 1)", book.event(0, 1), 0);
      same("event(39, 1)", book.event(39, 1), 0);
      refusedOutside(0, 39, "event", day -> book.event(day, 1));
      refusedOutside(0, 39, "dayOf", day -> book.dayOf(day, 0));
      same("days(40)", book.days(40), 40);
      same("days(1) once 40 have gone", book.days(1), 40);
    });
    term("the WEEKDAY of one is its rest by 5 (0 Monday)", () -> {
      CrossBook book = new CrossBook();
      int[][] due = {{0, 0}, {1, 1}, {4, 4}, {5, 0}, {9, 4}, {10, 0}, {38, 3}, {39, 4}};
      for (int[] day : due) {
        same("WEEKDAY of " + day[0], book.dayOf(day[0], 1), day[1]);
      }
    });
    term("each has EVENTS (bits): 1 paper, 2 herring, 4 circus, 8 inspector, 16 flood.", () -> {
      same("EVENTS at first", new CrossBook().dayOf(0, 0), 0);
      // truant on a Tuesday, kept with another weekday, far child: one bit alone sends each of them away
      int[][] away = {{TRUANT, 1}, {KEPT, 2}, {TRUANT, 4}, {CHILD, 16}};
      for (int[] one : away) {
        same("kind " + one[0] + " on a plain day", wouldOn(1, one[0], 0, 6, 0), 0);
        same("kind " + one[0] + " with " + one[1], wouldOn(1, one[0], 0, 6, one[1]), 1);
      }
      same("kept on its weekday", wouldOn(1, KEPT, 1, 6, 0), 1);
      same("kept on its weekday with 8", wouldOn(1, KEPT, 1, 6, 8), 0);
      CrossBook book = new CrossBook();
      for (int bit = 1; bit <= 16; bit *= 2) {
        book.event(bit, bit);
        same("EVENTS of day " + bit, book.dayOf(bit, 0), bit);
      }
    });
    term("TODAY is 0 at first (40 in the end).", () -> {
      CrossBook book = new CrossBook();
      same("TODAY at first", book.today(), 0);
      book.days(39);
      same("TODAY on the last day", book.today(), 39);
      book.days(1);
      same("TODAY in the end", book.today(), 40);
      book.days(40);
      same("TODAY beyond the end", book.today(), 40);
    });
  }

  private static void children() {
    term("CHILDREN, 8 at most, numbered as they come", () -> {
      CrossBook book = new CrossBook();
      for (int child = 0; child < 8; child++) {
        same("child " + child, book.child(CHILD, child, 0, 0), child);
      }
      same("a ninth", book.child(CHILD, 0, 0, 0), FULL);
      same("how many", book.many(0), 8);
      for (int child = 0; child < 8; child++) {
        same("A of " + child, book.childOf(child, 1), child);
      }
    });
    term("a KIND: 0 child; 1 kept, 2 ill, 3 truant (under child), 4 barefoot (under kept), 5 catching (under ill)", () -> {
      int[][] above = {{}, {0}, {0}, {0}, {1, 0}, {2, 0}};
      CrossBook book = new CrossBook();
      for (int kind = 0; kind < 6; kind++) {
        book.child(kind, 0, 0, 0);
        same("KIND " + kind, book.childOf(kind, 0), kind);
        book.shelf(0, 0, kind);
        for (int as = 0; as < 6; as++) {
          boolean isSo = as == kind;
          for (int up : above[kind]) {
            isSo |= as == up;
          }
          same("KIND " + kind + " for " + as, book.taken(0, as), isSo ? kind : OTHER);
        }
      }
      refusedOutside(0, 5, "KIND", kind -> book.child(kind, 0, 0, 0));
    });
  }

  private static void features() {
    term("A (0 to 9)", () -> {
      CrossBook book = one(0, CHILD, 0, 0);
      same("child with A 9", book.child(CHILD, 9, 0, 0), 1);
      same("A 0", book.childOf(0, 1), 0);
      same("A 9", book.childOf(1, 1), 9);
      refusedOutside(0, 9, "child", a -> book.child(CHILD, a, 0, 0));
      refusedOutside(0, 9, "mind", a -> book.mind(0, CHILD, a));
      same("mind with A 9", book.mind(0, CHILD, 9), CHILD);
    });
    term("a HOUSE (0 to 5)", () -> {
      CrossBook book = one(0, CHILD, 0, 0);
      same("child in HOUSE 5", book.child(CHILD, 0, 5, 0), 1);
      same("HOUSE 0", book.childOf(0, 2), 0);
      same("HOUSE 5", book.childOf(1, 2), 5);
      refusedOutside(0, 5, "child", house -> book.child(CHILD, 0, house, 0));
      refusedOutside(0, 5, "knock", book::knock);
      same("knock at HOUSE 5", book.knock(5), 1);
    });
    term("FAR (0 to 9)", () -> {
      CrossBook book = one(0, CHILD, 0, 0);
      same("child with FAR 9", book.child(CHILD, 0, 0, 9), 1);
      same("FAR 0", book.childOf(0, 3), 0);
      same("FAR 9", book.childOf(1, 3), 9);
      refusedOutside(0, 9, "child", far -> book.child(CHILD, 0, 0, far));
    });
  }

  private static void countedDown() {
    term("SICK (0 to 20 DAYS left; 0 at first)", () -> {
      CrossBook book = one(0, ILL, 0, 0);
      same("SICK at first", book.childOf(0, 4), 0);
      same("sick(0, 20)", book.sick(0, 20), 0);
      same("SICK", book.childOf(0, 4), 20);
      refusedOutside(0, 20, "sick", days -> book.sick(0, days));
      book.days(19);
      same("SICK behind 19 DAYS", book.childOf(0, 4), 1);
      same("away on the 20th", book.would(0), 1);
      book.days(1);
      same("SICK behind 20 DAYS", book.childOf(0, 4), 0);
      same("there on the 21st", book.would(0), 0);
      same("sick(0, 0)", book.sick(0, 0), 0);
    });
    term("KNOCK (0 to 20 DAYS left; 0 at first)", () -> {
      CrossBook book = one(0, CHILD, 0, 0);
      same("KNOCK at first", book.childOf(0, 5), 0);
      book.set(STRONG, 20);
      book.knock(0);
      same("KNOCK", book.childOf(0, 5), 20);
      book.days(19);
      same("KNOCK behind 19 DAYS", book.childOf(0, 5), 1);
      book.days(1);
      same("KNOCK behind 20 DAYS", book.childOf(0, 5), 0);
      book.days(1);
      same("KNOCK behind 21 DAYS", book.childOf(0, 5), 0);
    });
    term("AWAY (DAYS away in a row; 0 at first).", () -> {
      CrossBook book = one(0, ILL, 0, 0);
      same("AWAY at first", book.childOf(0, 6), 0);
      book.sick(0, 3);
      for (int day = 1; day <= 3; day++) {
        book.days(1);
        same("AWAY behind " + day + " DAYS", book.childOf(0, 6), day);
      }
      book.days(1);
      same("AWAY behind a DAY there", book.childOf(0, 6), 0);
      book.sick(0, 1);
      book.days(1);
      same("AWAY in another row", book.childOf(0, 6), 1);
      CrossBook all = new CrossBook();
      all.child(CHILD, 0, 0, 9);
      for (int day = 0; day < 40; day++) {
        all.event(day, FLOOD);
      }
      all.days(40);
      same("AWAY behind all DAYS", all.childOf(0, 6), 40);
    });
  }

  private static void law(int law, int first, int low, int high) {
    CrossBook book = new CrossBook();
    same("set to the least", book.set(law, low), first);
    same("set to the largest", book.set(law, high), low);
    refusedOutside(low, high, "set", v -> book.set(law, v));
    same("set back", book.set(law, first), high);
  }

  private static void laws() {
    term("LAWS: 0 STRONG (1 to 20; 5 at first: DAYS for which a knock holds)", () -> {
      law(0, 5, 1, 20);
      CrossBook book = illIn(0);
      book.knock(0);
      book.days(6);
      same("there for 5 DAYS at first", book.marks(0), 5);
      same("away on day 5", book.dayOf(5, 3), 0);
    });
    term("1 LOST (2 to 30; 11)", () -> {
      law(1, 11, 2, 30);
      CrossBook book = awayFor(11, TRUANT, 0);
      same("11 away, LOST at first", book.good(0), 10);
      same("10 away, LOST at first", awayFor(10, TRUANT, 0).good(0), NONE);
    });
    term("2 TOUCH (1 to 8; 2)", () -> {
      law(2, 2, 1, 8);
      same("touched by 2 at first", sickAround(2, new CrossBook()), 3);
      same("touched by 1 at first", sickAround(1, new CrossBook()), 0);
    });
    term("3 SPELL (1 to 20; 3).", () -> {
      law(3, 3, 1, 20);
      same("a SPELL at first", sickAround(2, new CrossBook()), 3);
    });
  }

  /** SICK of a catching one behind a day, with so many who are ill in its house. */
  private static int sickAround(int others, CrossBook book) {
    int catching = book.child(CATCHING, 0, 0, 0);
    for (int i = 0; i < others; i++) {
      book.sick(book.child(ILL, 0, 0, 0), 1);
    }
    book.days(1);
    return book.childOf(catching, 4);
  }

  private static void lawsAtTheirEnds() {
    promise(10, "A LAW becomes v", () -> {
      for (int strong : new int[] {1, 20}) {
        CrossBook book = illIn(0);
        book.set(STRONG, strong);
        book.knock(0);
        same("STRONG " + strong, book.childOf(0, 5), strong);
      }
      for (int lost : new int[] {2, 20}) {
        CrossBook book = awayFor(lost, CHILD, 0);
        book.set(LOST, lost);
        same("LOST " + lost + ", so many away", book.good(0), lost - 1);
        book.set(LOST, lost + 1);
        same("LOST 1 more", book.good(0), NONE);
      }
      for (int touch = 1; touch <= 3; touch++) {
        for (int others = touch - 1; others <= touch; others++) {
          CrossBook book = new CrossBook();
          book.set(TOUCH, touch);
          same("TOUCH " + touch + ", others " + others, sickAround(others, book), others == touch ? 3 : 0);
        }
      }
      for (int spell : new int[] {1, 20}) {
        CrossBook book = new CrossBook();
        book.set(SPELL, spell);
        same("SPELL " + spell, sickAround(2, book), spell);
      }
    });
    promise(10, "what it was.", () -> {
      CrossBook book = new CrossBook();
      int[] first = {5, 11, 2, 3};
      for (int law = 0; law < 4; law++) {
        same("law " + law + " was at first", book.set(law, 4 + law), first[law]);
      }
      for (int law = 0; law < 4; law++) {
        same("law " + law + " was then", book.set(law, 4 + law), 4 + law);
      }
    });
  }

  private static void promise1() {
    promise(1, "No CHILDREN", () -> {
      CrossBook book = new CrossBook();
      same("many(0)", book.many(0), 0);
      same("childOf(0, 0)", book.childOf(0, 0), BAD);
    });
    promise(1, "no CROSSES", () -> {
      CrossBook book = new CrossBook();
      same("many(1)", book.many(1), 0);
      for (int day = 0; day < 40; day++) {
        same("CROSSES of day " + day, book.dayOf(day, 2), 0);
      }
    });
    promise(1, "nothing is kept.", () -> same("again()", new CrossBook().again(), NONE));
  }

  private static void promise2() {
    promise(2, "n bytes (1 to 8) come to THE TAPE", () -> {
      CrossBook book = new CrossBook();
      same("feed 1", book.feed(0, 1), 1);
      same("feed 8", book.feed(0, 8), 9);
      same("bytes", book.many(3), 9);
    });
    promise(2, "the lowest of eight first", () -> {
      CrossBook book = new CrossBook();
      long text = 0;
      for (int i = 7; i >= 0; i--) {
        text = text << 8 | "today 7;".charAt(i);
      }
      book.feed(text, 8);
      same("told by eight", book.school(), 0);
      same("TODAY", book.today(), 7);
      book.feed(text & 0xffffffffffL | (long) 'x' << 40, 5);
      book.feed(' ' | '8' << 8 | ';' << 16 | 'y' << 24, 3);
      same("told by five and three, without those above", book.school(), 0);
      same("TODAY", book.today(), 8);
      book.feed(0xffL << 56 | text, 8);
      same("the eighth byte counts, and its sign", book.school(), -107);
    });
    promise(2, "how many it has.", () -> {
      CrossBook book = new CrossBook();
      for (int i = 1; i <= 80; i++) {
        same("feed 3", book.feed(-1L, 3), 3 * i);
      }
    });
    promise(2, "BAD", () -> {
      CrossBook book = new CrossBook();
      refusedOutside(1, 8, "feed", n -> book.feed(7, n));
      same("bytes", book.many(3), 0);
    });
    promise(2, "FULL: more than 240.", () -> {
      CrossBook book = new CrossBook();
      for (int i = 1; i < 30; i++) {
        book.feed(0, 8);
      }
      book.feed(0, 1);
      same("233 and 8", book.feed(0, 8), FULL);
      same("233 still", book.many(3), 233);
      same("233 and 7", book.feed(0, 7), 240);
      same("240 and 1", book.feed(0, 1), FULL);
      same("240 still", book.many(3), 240);
      book.school();
      same("used up, and 8", book.feed(0, 8), 8);
    });
  }

  private static void promise4() {
    promise(4, "A CHILD: its number.", () -> {
      CrossBook book = new CrossBook();
      same("the first", book.child(CATCHING, 9, 5, 8), 0);
      same("the second, the least of all", book.child(0, 0, 0, 0), 1);
      int[] due = {CATCHING, 9, 5, 8, 0, 0, 0};
      for (int what = 0; what < 7; what++) {
        same("childOf(0, " + what + ")", book.childOf(0, what), due[what]);
        same("childOf(1, " + what + ")", book.childOf(1, what), 0);
      }
      book.days(40);
      same("one that comes in the end", book.child(5, 9, 5, 9), 2);
    });
    promise(4, "BAD", () -> {
      CrossBook book = new CrossBook();
      refusedOutside(0, 5, "kind", kind -> book.child(kind, 0, 0, 0));
      refusedOutside(0, 9, "a", a -> book.child(0, a, 0, 0));
      refusedOutside(0, 5, "house", house -> book.child(0, 0, house, 0));
      refusedOutside(0, 9, "far", far -> book.child(0, 0, 0, far));
      same("none came", book.many(0), 0);
    });
    promise(4, "FULL.", () -> {
      CrossBook book = illIn(0, 0, 0, 0, 0, 0, 0);
      same("the eighth", book.child(0, 0, 0, 0), 7);
      same("a ninth", book.child(0, 0, 0, 0), FULL);
      same("how many", book.many(0), 8);
    });
  }

  private static void promise5() {
    promise(5, "Of a CHILD: what = 0 KIND, 1 A, 2 HOUSE, 3 FAR, 4 SICK, 5 KNOCK, 6 AWAY.", () -> {
      CrossBook book = one(0, CHILD, 0, 0);
      book.child(ILL, 3, 4, 5);
      book.sick(1, 8);
      book.days(2);
      book.set(STRONG, 7);
      book.knock(4);
      int[] due = {ILL, 3, 4, 5, 6, 7, 2};
      for (int what = 0; what < 7; what++) {
        same("childOf(1, " + what + ")", book.childOf(1, what), due[what]);
        same("childOf(0, " + what + ")", book.childOf(0, what), 0);
      }
    });
    promise(5, "BAD.", () -> {
      CrossBook book = illIn(0, 1, 2);
      refusedOutside(0, 2, "child", child -> book.childOf(child, 0));
      refusedOutside(0, 6, "what", what -> book.childOf(2, what));
    });
  }

  private static void promise6() {
    promise(6, "A CHILD becomes one of another KIND, with another A", () -> {
      CrossBook book = new CrossBook();
      book.child(KEPT, 3, 4, 5);
      book.child(KEPT, 3, 4, 5);
      book.sick(1, 7);
      book.knock(4);
      for (int kind = 5; kind >= 0; kind--) {
        book.mind(1, kind, 9 - kind);
        int[] due = {kind, 9 - kind, 4, 5, 7, 5, 0};
        for (int what = 0; what < 7; what++) {
          same("childOf(1, " + what + ")", book.childOf(1, what), due[what]);
        }
      }
      same("another one's KIND stays", book.childOf(0, 0), KEPT);
      same("another one's A stays", book.childOf(0, 1), 3);
    });
    promise(6, "what KIND it was.", () -> {
      CrossBook book = one(0, TRUANT, 0, 0);
      same("mind", book.mind(0, CATCHING, 1), TRUANT);
      same("mind back", book.mind(0, CHILD, 1), CATCHING);
      same("mind as it is", book.mind(0, CHILD, 1), CHILD);
    });
    promise(6, "BAD.", () -> {
      CrossBook book = illIn(0, 0);
      refusedOutside(0, 1, "child", child -> book.mind(child, 1, 1));
      refusedOutside(0, 5, "kind", kind -> book.mind(0, kind, 1));
      refusedOutside(0, 9, "a", a -> book.mind(0, 1, a));
      same("KIND stays", book.childOf(0, 0), ILL);
      same("A stays", book.childOf(0, 1), 0);
    });
  }

  private static void promises7And8() {
    promise(7, "SICK of a CHILD becomes so many DAYS: what it was.", () -> {
      CrossBook book = illIn(0, 0);
      same("was", book.sick(1, 0), 20);
      same("was 0", book.sick(1, 20), 0);
      same("SICK", book.childOf(1, 4), 20);
      same("was 20", book.sick(1, 1), 20);
      same("SICK", book.childOf(1, 4), 1);
      same("another one's", book.childOf(0, 4), 20);
    });
    promise(7, "BAD.", () -> {
      CrossBook book = illIn(0, 0);
      refusedOutside(0, 1, "child", child -> book.sick(child, 1));
      refusedOutside(0, 20, "days", days -> book.sick(1, days));
      same("SICK stays", book.childOf(1, 4), 20);
    });
    promise(8, "EVENTS of a DAY (0 to 31) become so: what they were.", () -> {
      CrossBook book = new CrossBook();
      for (int day : new int[] {0, 39}) {
        same("were none", book.event(day, 31), 0);
        same("were all", book.event(day, 0), 31);
        same("were none again", book.event(day, 5), 0);
      }
      same("a neighbour's", book.dayOf(1, 0), 0);
      book.days(3);
      same("of a DAY that is over", book.event(0, 6), 5);
    });
    promise(8, "BAD.", () -> {
      CrossBook book = new CrossBook();
      book.event(39, 3);
      refusedOutside(0, 39, "day", day -> book.event(day, 1));
      refusedOutside(0, 31, "events", events -> book.event(39, events));
      same("EVENTS stay", book.dayOf(39, 0), 3);
    });
  }

  private static void promise9() {
    promise(9, "Of a DAY: what = 0 EVENTS, 1 WEEKDAY, 2 CROSSES (a set)", () -> {
      CrossBook book = illIn(0, 0, 0);
      book.sick(2, 0);
      book.event(39, FLOOD | PAPER);
      book.days(40);
      same("EVENTS", book.dayOf(39, 0), 17);
      same("WEEKDAY", book.dayOf(39, 1), 4);
      same("CROSSES of day 0", book.dayOf(0, 2), 4);
      same("CROSSES of day 39", book.dayOf(39, 2), 7);
      book.write(39, 1, false);
      same("CROSSES once one is out", book.dayOf(39, 2), 5);
    });
    promise(9, "3 who were there truly (a set; 0 if it isn't over).", () -> {
      CrossBook book = illIn(0, 0, 0);
      book.sick(2, 0);
      same("day 0, not over", book.dayOf(0, 3), 0);
      book.days(1);
      same("day 0, over", book.dayOf(0, 3), 4);
      same("day 1, not over", book.dayOf(1, 3), 0);
      book.write(0, 0, true);
      book.write(0, 2, false);
      same("whatever is written", book.dayOf(0, 3), 4);
      book.days(39);
      same("day 39, over", book.dayOf(39, 3), 7);
    });
    promise(9, "BAD.", () -> {
      CrossBook book = new CrossBook();
      refusedOutside(0, 39, "day", day -> book.dayOf(day, 1));
      refusedOutside(0, 3, "what", what -> book.dayOf(39, what));
    });
  }

  private static void promises10And11() {
    promise(10, "BAD.", () -> {
      CrossBook book = new CrossBook();
      refusedOutside(0, 3, "law", law -> book.set(law, 5));
      int[][] ends = {{1, 20}, {2, 30}, {1, 8}, {1, 20}};
      for (int law = 0; law < 4; law++) {
        int one = law;
        refusedOutside(ends[law][0], ends[law][1], "law " + law, v -> book.set(one, v));
      }
      same("a refused one stays", book.set(0, 5), 5);
    });
    promise(11, "TODAY.", () -> {
      CrossBook book = new CrossBook();
      same("at first", book.today(), 0);
      book.days(1);
      same("a DAY later", book.today(), 1);
      book.days(38);
      same("on the last DAY", book.today(), 39);
      book.days(40);
      same("in the end", book.today(), 40);
    });
  }
}
