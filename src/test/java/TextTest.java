/** Promise 3: a school told in a text. */
final class TextTest {
  private static final Check CHECK = new Check("TextTest");

  static void run() {
    told();
    stays();
    toldTwice();
    blanks();
    faultsOfWords();
    faultsOfNumbers();
    faultsOfEnds();
    refusedChangesNothing();
  }

  private static void told() {
    CrossBook book = new CrossBook();
    int count = Check.school(book, "child 0 in 5;kept 9 in 0 far 9;ill 1 in 1 far 0;truant 2 in 2;"
        + "barefoot 3 in 3;catching 4 in 4 far 1;sick 5 20;sick 0 0;day 0 31;day 39 1;today 40;");
    CHECK.same("children", count, 6);
    int[][] due = {{0, 0, 5, 0, 0}, {1, 9, 0, 9, 0}, {2, 1, 1, 0, 0}, {3, 2, 2, 0, 0}, {4, 3, 3, 0, 0}, {5, 4, 4, 1, 20}};
    for (int child = 0; child < 6; child++) {
      for (int what = 0; what < 5; what++) {
        CHECK.same("childOf(" + child + ", " + what + ")", book.childOf(child, what), due[child][what]);
      }
    }
    CHECK.same("day 0", book.dayOf(0, 0), 31);
    CHECK.same("day 39", book.dayOf(39, 0), 1);
    CHECK.same("today", book.today(), 40);
    CHECK.same("tape is used up", book.many(3), 0);
    CHECK.same("strong and lost", Check.school(book, "strong 20;lost 30;strong 1;"), 0);
    CHECK.same("strong, the latest", book.set(0, 5), 1);
    CHECK.same("lost", book.set(1, 5), 30);
    CHECK.same("eight", Check.school(book, "ill 1 in 1;ill 1 in 1;ill 1 in 1;ill 1 in 1;"
        + "ill 1 in 1;ill 1 in 1;ill 1 in 1;ill 1 in 1;sick 7 1;"), 8);
    CHECK.same("the eighth is sick", book.childOf(7, 4), 1);
    CHECK.same("nothing is told", book.school(), 0);
    CHECK.same("no children", book.many(0), 0);
  }

  private static void stays() {
    CrossBook book = new CrossBook();
    book.child(0, 0, 0, 0);
    book.set(0, 9);
    book.set(1, 8);
    book.set(2, 7);
    book.set(3, 6);
    book.seed(77);
    book.event(9, 3);
    book.sick(0, 9);
    book.knock(0);
    book.days(4);
    book.prove(3);
    CHECK.same("told", Check.school(book, "child 1 in 1;lost 4;"), 1);
    CHECK.same("strong stays", book.set(0, 9), 9);
    CHECK.same("lost is told", book.set(1, 4), 4);
    CHECK.same("touch stays", book.set(2, 7), 7);
    CHECK.same("spell stays", book.set(3, 6), 6);
    CHECK.same("z stays", book.seed(77), 77);
    CHECK.same("no events", book.dayOf(9, 0), 0);
    CHECK.same("today 0", book.today(), 0);
    CHECK.same("no crosses", book.many(1), 0);
    CHECK.same("nobody was there", book.dayOf(0, 3), 0);
    CHECK.same("no rows", book.many(2), 0);
    CHECK.same("not sick", book.childOf(0, 4), 0);
    CHECK.same("no knock", book.childOf(0, 5), 0);
    CHECK.same("not away", book.childOf(0, 6), 0);
    Check.school(book, "child 1 in 1;today 3;");
    CHECK.same("none on days told to be over", book.dayOf(1, 3), 0);
    CHECK.same("nothing is wrong", book.wrong(2), -9);
    CHECK.same("no crosses for 3 days", book.longest(0), 3);
    book.write(1, 0, true);
    CHECK.same("a cross for one who wasn't there", book.wrong(0), 1);
  }

  /** Nothing of a school told ahead goes into the next one, whether it had a fault or not. */
  private static void toldTwice() {
    String first = "ill 9 in 5 far 9;ill 8 in 4 far 8;sick 0 20;sick 1 19;day 0 31;day 39 30;today 20;strong 9;lost 9";
    for (String end : new String[] {";", ""}) {
      CrossBook book = new CrossBook();
      Check.school(book, first + end);
      boolean isTold = !end.isEmpty();
      CHECK.same("today of the first", book.today(), isTold ? 20 : 0);
      if (isTold) {
        book.days(20);
        book.knock(5);
        book.write(0, 0, true);
      }
      CHECK.same("told", Check.school(book, "child 1 in 0;"), 1);
      CHECK.same("strong is of the school that was told", book.set(0, 5), isTold ? 9 : 5);
      CHECK.same("lost is of the school that was told", book.set(1, 11), isTold ? 9 : 11);
      book.child(0, 0, 0, 0);
      for (int child = 0; child < 2; child++) {
        int[] due = {0, 1 - child, 0, 0, 0, 0, 0};
        for (int what = 0; what < 7; what++) {
          CHECK.same("childOf(" + child + ", " + what + ")", book.childOf(child, what), due[what]);
        }
      }
      CHECK.same("today", book.today(), 0);
      for (int day = 0; day < 40; day++) {
        CHECK.same("events", book.dayOf(day, 0), 0);
        CHECK.same("crosses", book.dayOf(day, 2), 0);
        CHECK.same("truly", book.dayOf(day, 3), 0);
      }
    }
    CrossBook book = new CrossBook();
    for (int i = 0; i < 3; i++) {
      book.child(2, 0, 0, 0);
      book.sick(i, 9);
    }
    book.knock(0);
    book.days(7);
    CHECK.same("away", book.childOf(2, 6), 2);
    book.keep();
    CHECK.same("none", book.school(), 0);
    book.child(0, 0, 0, 0);
    CHECK.same("a new one isn't sick", book.childOf(0, 4), 0);
    CHECK.same("a new one isn't away", book.childOf(0, 6), 0);
    book.again();
    book.knock(0);
    book.school();
    book.child(0, 0, 0, 0);
    CHECK.same("at a new one nobody has knocked", book.childOf(0, 5), 0);
    Check.school(book, "day 1 31;day 1 0;");
    CHECK.same("the latest counts", book.dayOf(1, 0), 0);
  }

  private static void blanks() {
    CrossBook book = new CrossBook();
    CHECK.same("many blanks", Check.school(book, "   kept   07  in  3   far  01 ;  "), 1);
    CHECK.same("A", book.childOf(0, 1), 7);
    CHECK.same("FAR", book.childOf(0, 3), 1);
    CHECK.same("blanks alone", Check.school(book, "     "), 0);
    CHECK.same("blanks ahead of the end", Check.school(book, "today 3  ;   "), 0);
    CHECK.same("as long as they go", Check.school(book, "kept7in3far2;sick0 4;"), 1);
    CHECK.same("HOUSE", book.childOf(0, 2), 3);
    CHECK.same("SICK", book.childOf(0, 4), 4);
    CHECK.same("a tab is no blank", Check.school(book, "kept\t7 in 3;"), -104);
    CHECK.same("a line's end is no blank", Check.school(book, "today 1;\n"), -108);
  }

  private static void faultsOfWords() {
    CrossBook book = new CrossBook();
    fault(book, "", -1);
    fault(book, ";", 0);
    fault(book, "  ;", 2);
    fault(book, "5 in 3;", 0);
    fault(book, "chil 1 in 1;", 0);
    fault(book, "childs 1 in 1;", 0);
    fault(book, "childz 1 in 1;", 0);
    fault(book, "child 1 in 1 farz 1;", 13);
    fault(book, "a", 0);
    fault(book, "child{1", 5);
    fault(book, "child`1", 5);
    fault(book, "child/1", 5);
    fault(book, "child 1/in", 7);
    fault(book, "child 1:in", 7);
    fault(book, "Child 1 in 1;", 0);
    fault(book, "in 1;", 0);
    fault(book, "far 1;", 0);
    fault(book, "chi ld 1 in 1;", 0);
    fault(book, "child child", 6);
    fault(book, "child 1 on 1;", 8);
    fault(book, "child 1 1;", 8);
    fault(book, "child 1 inn 1;", 8);
    fault(book, "child 1 in in 1;", 11);
    fault(book, "child 1 in 1 fa 1;", 13);
    fault(book, "child 1 in 1 sick 1;", 13);
    fault(book, "child 1 in 1 2;", 13);
    fault(book, "child 1 in 1 far 2 far 3;", 19);
    fault(book, "child 1 in 1 far 2 3;", 19);
    fault(book, "child 1 in 1 far;", 16);
    fault(book, "child 1 in 1;;", 13);
    fault(book, "child 1 in 1,", 12);
    fault(book, "day x 1;", 4);
    fault(book, "day 1,1;", 5);
    fault(book, "today 1 1;", 8);
    fault(book, "today 1 child 1 in 1;", 8);
    fault(book, "touch 1;", 0);
    fault(book, "spell 1;", 0);
    fault(book, "child 1 in 1;" + (char) 233, 13);
    fault(book, "child " + (char) 0, 6);
    String eight = "ill 1 in 1;ill 1 in 1;ill 1 in 1;ill 1 in 1;ill 1 in 1;ill 1 in 1;ill 1 in 1;ill 1 in 1;";
    fault(book, eight + " kept", 89);
    fault(book, eight + "kept 1 in 1;", 88);
    fault(book, eight + "kep", 88);
    fault(book, eight + "today 1;sick 8 1;", 101);
  }

  private static void faultsOfNumbers() {
    CrossBook book = new CrossBook();
    fault(book, "child 10 in 1;", 6);
    fault(book, "child 001 in 1;", 6);
    fault(book, "child 00 in 00 far 00;", -1);
    fault(book, "child -1 in 1;", 6);
    fault(book, "child 1 in 6;", 11);
    fault(book, "child 1 in 1 far 10;", 17);
    fault(book, "child 1 in 1 far 000;", 17);
    fault(book, "day 40 0;", 4);
    fault(book, "day 39 31;", -1);
    fault(book, "day 0 0;", -1);
    fault(book, "day 39 32;", 7);
    fault(book, "day 039 1;", 4);
    fault(book, "sick 0 0;", 5);
    fault(book, "child 1 in 1;sick 0 20;", -1);
    fault(book, "child 1 in 1;sick 0 21;", 20);
    fault(book, "child 1 in 1;sick 1 0;", 18);
    fault(book, "sick 0 1;child 1 in 1;", 5);
    fault(book, "today 40;", -1);
    fault(book, "today 41;", 6);
    fault(book, "today 4294967296;", 6);
    fault(book, "strong 0;", 7);
    fault(book, "strong 1;", -1);
    fault(book, "strong 20;", -1);
    fault(book, "strong 21;", 7);
    fault(book, "lost 1;", 5);
    fault(book, "lost 2;", -1);
    fault(book, "lost 30;", -1);
    fault(book, "lost 31;", 5);
    fault(book, "child 1 in 9 far 99;", 11);
    fault(book, "child 99 x", 6);
  }

  private static void faultsOfEnds() {
    CrossBook book = new CrossBook();
    String whole = "child 1 in 2 far 3;";
    int[] ends = {0, 5, 6, 7, 8, 10, 11, 12, 13, 16, 17, 18, 19};
    for (int end : ends) {
      fault(book, whole.substring(0, end), end == 0 || end == 19 ? -1 : end);
    }
    fault(book, whole.substring(0, 9), 8);
    fault(book, whole.substring(0, 14), 13);
    fault(book, "child   ", 8);
    fault(book, "day 1 1", 7);
    fault(book, "day 1   ", 8);
    fault(book, "sick", 4);
    fault(book, "today", 5);
    fault(book, "lost 3", 6);
    String full = "today 1;                        ";
    String text = "";
    while (text.length() < 240) {
      text += full;
    }
    fault(book, text.substring(0, 240), -1);
    fault(book, text.substring(0, 239) + "x", 239);
    String items = "";
    while (items.length() < 240) {
      items += "lost 3; ";
    }
    fault(book, items, -1);
    fault(book, items.substring(0, 232) + "lost   3", 240);
  }

  private static void fault(CrossBook book, String text, int place) {
    int got = Check.school(book, text);
    if (place < 0) {
      CHECK.yes("'" + text + "' answered " + got + ", due is no fault", got >= 0);
    } else {
      CHECK.same("'" + text + "'", got, -100 - place);
    }
    CHECK.same("the tape is used up by '" + text + "'", book.many(3), 0);
  }

  private static void refusedChangesNothing() {
    CrossBook book = new CrossBook();
    book.child(1, 2, 3, 4);
    book.event(2, 5);
    book.days(3);
    book.prove(4);
    CHECK.same("fault at the end", Check.school(book, "child 1 in 1;strong 9;lost 9;today 9;day 2 9;sick 0 9"), -153);
    CHECK.same("children", book.many(0), 1);
    CHECK.same("kind", book.childOf(0, 0), 1);
    CHECK.same("sick", book.childOf(0, 4), 0);
    CHECK.same("today", book.today(), 3);
    CHECK.same("events", book.dayOf(2, 0), 5);
    CHECK.same("crosses", book.many(1), 2);
    CHECK.same("rows", book.many(2), 4);
    CHECK.same("judge", book.judge(), 0);
    CHECK.same("strong", book.set(0, 5), 5);
    CHECK.same("lost", book.set(1, 11), 11);
  }
}
