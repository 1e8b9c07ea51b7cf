/** The sentences on THE TAPE and its TEXT (section 2), and promise 3. */
final class TextEdges extends Edge {
  private static final String EIGHT = "ill 1 in 1;ill 1 in 1;ill 1 in 1;ill 1 in 1;ill 1 in 1;ill 1 in 1;ill 1 in 1;ill 1 in 1;";

  static void run() {
    tape();
    items();
    ranges();
    alone();
    namesAndNumbers();
    faults();
    promise3();
  }

  private static CrossBook told(String text, int due) {
    CrossBook book = new CrossBook();
    same("school() of '" + text + "'", Check.school(book, text), due);
    return book;
  }

  private static void fault(String text, int place) {
    CrossBook book = told(text, -100 - place);
    same("the tape behind it", book.many(3), 0);
  }

  private static void tape() {
    term("THE TAPE takes bytes, 240 at most", () -> {
      CrossBook book = new CrossBook();
      for (int i = 1; i <= 30; i++) {
        same("feed 8", book.feed(0x2020202020202020L, 8), 8 * i);
      }
      same("one more", book.feed(' ', 1), FULL);
      same("bytes", book.many(3), 240);
      same("240 blanks", book.school(), 0);
      fault(" ".repeat(231) + "today 41;", 237);
      fault(" ".repeat(239) + "x", 239);
      told(" ".repeat(227) + "child 1 in 1;", 1);
    });
    term("school() uses it up.", () -> {
      CrossBook book = new CrossBook();
      Check.feed(book, "child 1 in 1;");
      same("school()", book.school(), 1);
      same("bytes", book.many(3), 0);
      same("once more, of nothing", book.school(), 0);
      Check.feed(book, "child 1 in 1;x");
      same("school() with a fault", book.school(), -113);
      same("bytes", book.many(3), 0);
      same("feed behind it", book.feed('x', 1), 1);
      same("its place is counted from 0 again", book.school(), -100);
    });
  }

  private static void items() {
    term("TEXT: { KIND N in N [ far N ] ; | day N N ; | sick N N ; | today N ; | strong N ; | lost N ; }", () -> {
      told("", 0);
      told("child 1 in 2 far 3;", 1);
      told("child 1 in 2;", 1);
      told("day 1 2;today 3;strong 4;lost 5;", 0);
      told("lost 5;day 1 2;today 3;kept 1 in 2;day 2 2;sick 0 7;strong 4;ill 2 in 3 far 0;sick 1 9;sick 0 8;lost 6;", 2);
      String[][] cut = {
        {"child 1 in 2 far 3;", "5 6 7 8 10 11 12 13 16 17 18"}, {"day 1 2;", "3 4 5 6 7"}, {"today 3;", "5 6 7"},
        {"strong 4;", "6 7 8"}, {"lost 5;", "4 5 6"}
      };
      for (String[] one : cut) {
        for (String end : one[1].split(" ")) {
          fault(one[0].substring(0, Integer.parseInt(end)), Integer.parseInt(end));
        }
      }
      fault("child 1 in 2 far 3 far 3;", 19);
      fault("child 1 far 3 in 2;", 8);
      fault("child 1 in 2 far;", 16);
      fault("day 1;", 5);
      fault("day 1 2 3;", 8);
      fault("sick;", 4);
      fault("today;", 5);
      fault("today 1 2;", 8);
      fault("strong 4 today 3;", 9);
      fault("lost 5;;", 7);
      fault("in 1;", 0);
      fault("far 1;", 0);
      fault("touch 1;", 0);
      fault("spell 1;", 0);
    });
  }

  private static void ranges() {
    term("KIND (child | kept | ill | truant | barefoot | catching): A, HOUSE, FAR (0 if not told).", () -> {
      String[] kinds = {"child", "kept", "ill", "truant", "barefoot", "catching"};
      for (int kind = 0; kind < 6; kind++) {
        CrossBook book = told(kinds[kind] + " 0 in 0 far 0;" + kinds[kind] + " 9 in 5 far 9;" + kinds[kind] + " 8 in 4;", 3);
        int[][] due = {{kind, 0, 0, 0}, {kind, 9, 5, 9}, {kind, 8, 4, 0}};
        for (int child = 0; child < 3; child++) {
          for (int what = 0; what < 4; what++) {
            same("childOf(" + child + ", " + what + ")", book.childOf(child, what), due[child][what]);
          }
        }
        int length = kinds[kind].length() + 1;
        fault(kinds[kind] + " 10 in 0;", length);
        fault(kinds[kind] + " 0 in 6;", length + 5);
        fault(kinds[kind] + " 0 in 0 far 10;", length + 11);
        fault(kinds[kind] + "s 0 in 0;", 0);
      }
    });
    term("day: a DAY (0 to 39), EVENTS (0 to 31).", () -> {
      CrossBook book = told("day 0 31;day 39 31;day 1 5;day 1 0;", 0);
      same("EVENTS of 0", book.dayOf(0, 0), 31);
      same("EVENTS of 39", book.dayOf(39, 0), 31);
      same("EVENTS of 1, told twice", book.dayOf(1, 0), 0);
      fault("day 40 0;", 4);
      fault("day 39 32;", 7);
      fault("day -1 0;", 4);
    });
    term("sick: a CHILD told ahead, SICK (0 to 20).", () -> {
      CrossBook book = told(EIGHT + "sick 7 20;sick 0 1;sick 6 3;sick 6 0;", 8);
      int[] due = {1, 0, 0, 0, 0, 0, 0, 20};
      for (int child = 0; child < 8; child++) {
        same("SICK of " + child, book.childOf(child, 4), due[child]);
      }
      fault("sick 0 1;ill 1 in 1;", 5);
      fault("ill 1 in 1;sick 1 1;ill 1 in 1;", 16);
      fault("ill 1 in 1;sick 0 21;", 18);
      fault(EIGHT + "sick 8 1;", 93);
      CrossBook other = illIn(0, 0, 0);
      same("only those of this text", Check.school(other, "ill 1 in 1;sick 1 1;"), -116);
    });
    term("today: 0 to 40.", () -> {
      same("today 0", told("today 0;", 0).today(), 0);
      same("today 40", told("today 40;", 0).today(), 40);
      same("told twice", told("today 40;today 1;", 0).today(), 1);
      fault("today 41;", 6);
      fault("today 99;", 6);
    });
    term("strong, lost: LAWS.", () -> {
      same("strong 1", told("strong 1;", 0).set(STRONG, 5), 1);
      same("strong 20", told("strong 20;", 0).set(STRONG, 5), 20);
      same("lost 2", told("lost 2;", 0).set(LOST, 5), 2);
      same("lost 30", told("lost 30;", 0).set(LOST, 5), 30);
      fault("strong 0;", 7);
      fault("strong 21;", 7);
      fault("lost 1;", 5);
      fault("lost 31;", 5);
    });
  }

  /** A school of two on day 4 in which all is otherwise than at first. */
  private static CrossBook before() {
    CrossBook book = illIn(0, 0);
    for (int day = 0; day < 40; day++) {
      book.event(day, PAPER);
    }
    book.sick(1, 0);
    book.set(STRONG, 9);
    book.set(LOST, 8);
    book.set(TOUCH, 7);
    book.set(SPELL, 6);
    book.seed(77);
    book.knock(0);
    book.days(4);
    return book;
  }

  private static void alone() {
    term("It is THE SCHOOL by it alone (without EVENTS and CROSSES if not told; TODAY 0)", () -> {
      CrossBook book = before();
      same("school()", Check.school(book, "kept 1 in 3;day 9 2;"), 1);
      same("children", book.many(0), 1);
      same("TODAY", book.today(), 0);
      same("CROSSES", book.many(1), 0);
      int[] due = {KEPT, 1, 3, 0, 0, 0, 0};
      for (int what = 0; what < 7; what++) {
        same("childOf(0, " + what + ")", book.childOf(0, what), due[what]);
      }
      for (int day = 0; day < 40; day++) {
        same("EVENTS of " + day, book.dayOf(day, 0), day == 9 ? 2 : 0);
        same("there truly on " + day, book.dayOf(day, 3), 0);
      }
      CrossBook nothing = before();
      same("school() of nothing", nothing.school(), 0);
      same("children", nothing.many(0), 0);
      same("EVENTS", nothing.dayOf(5, 0), 0);
      nothing.child(ILL, 0, 0, 0);
      same("a new one's KNOCK", nothing.childOf(0, 5), 0);
      for (String end : new String[] {";", "", "x"}) {
        // nothing of a text goes over into the next, whether it had a fault or not
        CrossBook twice = new CrossBook();
        Check.school(twice, "ill 9 in 5 far 9;sick 0 20;day 0 31;day 39 30;today 20;lost 9;strong 9" + end);
        same("LOST, told with its fault or without", twice.set(LOST, 11), end.equals(";") ? 9 : 11);
        same("school() again", Check.school(twice, "day 9 2;"), 0);
        same("TODAY", twice.today(), 0);
        for (int day = 0; day < 40; day++) {
          same("EVENTS of " + day + " told by the second", twice.dayOf(day, 0), day == 9 ? 2 : 0);
        }
        twice.child(ILL, 0, 0, 0);
        same("SICK of a new one", twice.childOf(0, 4), 0);
        Check.school(twice, "ill 1 in 1;");
        same("SICK of one told", twice.childOf(0, 4), 0);
        same("FAR of one told", twice.childOf(0, 3), 0);
      }
      CrossBook later = before();
      Check.school(later, "kept 1 in 3;today 9;");
      same("DAYS told to be over, without CROSSES", later.longest(0), 9);
      same("nobody was there truly", later.wrong(2), NOT_FOUND);
      same("AWAY", later.childOf(0, 6), 0);
    });
    term("LAWS that it doesn't tell stay", () -> {
      CrossBook book = before();
      Check.school(book, "today 1;");
      int[] due = {9, 8, 7, 6};
      for (int law = 0; law < 4; law++) {
        same("law " + law, book.set(law, due[law]), due[law]);
      }
      Check.school(book, "strong 3;");
      same("LOST, when STRONG is told", book.set(LOST, 8), 8);
      Check.school(book, "lost 4;");
      same("STRONG, when LOST is told", book.set(STRONG, 3), 3);
      same("LOST, told", book.set(LOST, 4), 4);
    });
    term("z stays.", () -> {
      CrossBook book = before();
      Check.school(book, "child 1 in 1;");
      same("z", book.seed(1), 77);
    });
  }

  private static void namesAndNumbers() {
    term("NAMES are rows of letters a to z", () -> {
      fault("Child 1 in 1;", 0);
      fault("cHild 1 in 1;", 0);
      fault("child 1 iN 1;", 8);
      fault("`child 1 in 1;", 0);
      fault("{child 1 in 1;", 0);
      fault("child{ 1 in 1;", 5);
      fault("child` 1 in 1;", 5);
      fault("child" + (char) 233 + " 1 in 1;", 5);
      fault("child_1 in 1;", 5);
      fault("zzz", 0);
      fault("childz 1 in 1;", 0);
      fault("child 1 in 1 farz 1;", 13);
      fault("child 1 ina 1;", 8);
      fault("a", 0);
    });
    term("NUMBERS rows of digits (1 or 2)", () -> {
      told("child 01 in 05 far 09;day 00 00;today 00;", 1);
      fault("child 001 in 5;", 6);
      fault("today 000;", 6);
      fault("today 0/;", 7);
      fault("today 0:;", 7);
      fault("today /;", 6);
      fault("today :;", 6);
      fault("today -1;", 6);
      fault("today +1;", 6);
      fault("today 4294967297;", 6);
      fault("today 18446744073709551617;", 6);
    });
    term("both as long as they go", () -> {
      fault("childkept 1 in 1;", 0);
      fault("chil d 1 in 1;", 0);
      fault("today 1 2;", 8);
      same("12 is one number", told("today 12;", 0).today(), 12);
      same("a NAME ends at a digit", told("today7;", 0).today(), 7);
      same("a NUMBER ends at a letter", told("child 1in2far3;", 1).childOf(0, 3), 3);
      fault("child 1 infar 1;", 8);
      fault("day 111;", 4);
    });
    term("blanks (32) part them, and stand elsewhere as one likes.", () -> {
      CrossBook book = told("  child   1   in   2   far   3   ;   today   4   ;   ", 1);
      same("A", book.childOf(0, 1), 1);
      same("FAR", book.childOf(0, 3), 3);
      same("TODAY", book.today(), 4);
      told("child 1 in 2;today 3;", 1);
      told(" ", 0);
      fault("child\t1 in 1;", 5);
      fault("child 1 in 1;\n", 13);
      fault("\rtoday 1;", 0);
      fault("today 1;" + (char) 0, 8);
      fault("today 1;" + (char) 160, 8);
      fault("today 1;" + (char) 31, 8);
      fault("today 1;" + (char) 33, 8);
    });
  }

  private static void faults() {
    term("FAULT: the place (from 0) of the first byte of the first NAME, NUMBER or other byte that can't stand there "
        + "or is not as told", () -> {
      fault("x", 0);
      fault("xchild 1 in 1;", 0);
      fault(";", 0);
      fault("7", 0);
      fault("   kid 1 in 1;", 3);
      fault("child kept 1 in 1;", 6);
      fault("child 1 on 1;", 8);
      fault("child 1 2;", 8);
      fault("child 1;", 7);
      fault("child 1 in ;", 11);
      fault("child 1 in in;", 11);
      fault("child 1 in 1 fat 1;", 13);
      fault("child 1 in 1 2;", 13);
      fault("child 1 in 1,", 12);
      fault("child 1 in 1 far x;", 17);
      fault("day one 1;", 4);
      fault("sick x 1;", 5);
      fault("today 1child 1 in 1;", 7);
      fault("child 10 on 9 fat 99;", 6);
      fault("child 1 in 9 fat 99", 11);
      fault("today 50;kid", 6);
    });
    term("(a NUMBER out of range, of more digits; the first NAME of a ninth CHILD)", () -> {
      fault("today 3;today 41;", 14);
      fault("today 3;today 041;", 14);
      fault("today 3;today 003;", 14);
      told(EIGHT, 8);
      fault(EIGHT + "child", 88);
      fault(EIGHT + "  child 1 in 1;", 90);
      fault(EIGHT + "catching x", 88);
      told(EIGHT + "today 1;day 1 1;", 8);
    });
    term("or the end (how many bytes there are), if more must come.", () -> {
      fault("child", 5);
      fault("child  ", 7);
      fault("child 1 in 1", 12);
      fault("child 1 in 1   ", 15);
      fault("child 1 in 1 far", 16);
      fault("today 1;day 1", 13);
      fault("today 1;day 1 1", 15);
      fault(" ".repeat(231) + "today   3", 240);
      fault(" ".repeat(235) + "today", 240);
      fault(" ".repeat(235) + "day 1", 240);
      fault(" ".repeat(228) + "child 1 in 1", 240);
      fault(" ".repeat(224) + "child 1 in 1 far", 240);
      CrossBook longer = told("child 1 in 1;today 3;x", -121);
      same("what a longer text left behind is no more", Check.school(longer, "child 1 in 1"), -112);
      fault("kep", 0);
      fault("child 1 i", 8);
      fault("child 1 in 1 fa", 13);
      fault("today 411", 6);
    });
  }

  private static void promise3() {
    promise(3, "THE TAPE becomes THE SCHOOL: how many CHILDREN", () -> {
      told(EIGHT, 8);
      told("kept 1 in 1;ill 2 in 2;", 2);
      CrossBook book = before();
      same("school() of blanks", Check.school(book, "   "), 0);
      same("children", book.many(0), 0);
    });
    promise(3, "-100 less its FAULT.", () -> {
      fault("x", 0);
      fault("today 41;", 6);
      fault(" ".repeat(239) + "x", 239);
      fault(" ".repeat(236) + "lost", 240);
    });
    promise(3, "There are no ROWS then.", () -> {
      CrossBook book = new CrossBook();
      book.prove(20);
      same("school()", Check.school(book, "today 0;"), 0);
      same("ROWS", book.many(2), 0);
      same("row(0, 0)", book.row(0, 0), NOT_FOUND);
      same("judge()", book.judge(), 0);
      book.prove(3);
      same("school() of nothing", book.school(), 0);
      same("ROWS", book.many(2), 0);
      book.prove(3);
      same("school() with a fault", Check.school(book, "x"), -100);
      same("ROWS once it is refused", book.many(2), 3);
    });
  }
}
