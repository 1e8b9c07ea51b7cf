import java.util.function.IntUnaryOperator;

/** The sentences on acts, THE TRACE, SHEETS and SHELVES (section 3), and promises 32 to 39. */
final class HostEdges extends Edge {
  static void run() {
    acts();
    ofChild();
    ofPatients();
    ofOthers();
    trace();
    sheets();
    shelves();
    promise32();
    promise33();
    promise34();
    promise35();
    promise36();
    promise37();
    promises38And39();
  }

  /** One of a kind on shelf 0, with a number and an A. */
  private static CrossBook held(int kind, int n, int a) {
    CrossBook book = new CrossBook();
    for (int i = 0; i < n; i++) {
      book.child(CHILD, 0, 0, 0);
    }
    book.child(kind, a, 0, 0);
    book.shelf(0, 0, n);
    return book;
  }

  /** An act, its answer and its bodies. */
  private static void act(CrossBook book, int act, int x, int due, int... bodies) {
    String call = "act(0, " + act + ", " + x + ")";
    same(call, book.act(0, act, x), due);
    bodies(book, call, bodies);
  }

  private static void bodies(CrossBook book, String call, int... bodies) {
    same("bodies of " + call, book.many(4), bodies.length);
    for (int i = 0; i < bodies.length; i++) {
      same("body " + i + " of " + call, book.trace(i), bodies[i]);
    }
    same("no more of " + call, book.trace(bodies.length), NONE);
  }

  private static void acts() {
    term("ACTS of things, with a number x (ints that wrap): 0 knocks, 1 crosses, 2 shares, 3 tells.", () -> {
      CrossBook book = held(CHILD, 1, 3);
      act(book, 0, 5, 6, 10);
      act(book, 1, 5, 12, 11, 10);
      act(book, 2, 5, 2, 12);
      act(book, 3, 5, 12 ^ 3, 13, 11, 10);
      act(book, 0, MAX, MIN, 10);
      act(book, 1, MAX, 0, 11, 10);
      act(book, 1, MIN, 2, 11, 10);
      act(book, 2, MIN, -1073741824, 12);
      act(book, 3, MAX - 1, -2 ^ 3, 13, 11, 10);
      CrossBook ill = held(ILL, 0, 1);
      act(ill, 0, 1431655766, 2, 30, 10);
      act(ill, 0, MIN, MIN, 30, 10);
      CrossBook catching = held(CATCHING, 0, 1);
      act(catching, 0, MIN, MIN, 40, 30, 10);
      CrossBook barefoot = held(BAREFOOT, 0, 1);
      act(barefoot, 2, MAX, (MIN + 1) ^ 1, 50, 12);
      CrossBook less = held(CHILD, 1, 0);
      act(less, 2, MIN, MIN, 12);
      CrossBook kept = held(KEPT, 0, 9);
      act(kept, 1, 1 << 30, MAX - 8, 20, 11, 10);
    });
    term("A CHILD is held as a thing of its KIND; n: its number, a: its A.", () -> {
      CrossBook book = held(ILL, 7, 9);
      act(book, 0, 1, 24, 30, 10);
      book.mind(7, CHILD, 9);
      act(book, 0, 1, 8, 10);
      act(book, 2, 9, 4, 12);
      book.mind(7, CHILD, 4);
      act(book, 2, 9, -3, 12);
      book.mind(7, CHILD, 7);
      act(book, 2, 9, PARTED, 12);
    });
  }

  private static void ofChild() {
    term("BODIES, each with its number: child: 10 knocks: x + n.", () -> {
      act(held(CHILD, 0, 9), 0, 5, 5, 10);
      act(held(CHILD, 7, 9), 0, -5, 2, 10);
      act(held(TRUANT, 7, 9), 0, 5, 12, 10);
    });
    term("11 crosses: knocks(x) * 2.", () -> {
      act(held(CHILD, 7, 9), 1, -5, 4, 11, 10);
      act(held(ILL, 1, 9), 1, 5, 36, 11, 30, 10);
    });
    term("12 shares: x by (a - n), the rest away", () -> {
      act(held(CHILD, 0, 9), 2, 26, 2, 12);
      act(held(CHILD, 0, 9), 2, 27, 3, 12);
      act(held(CHILD, 0, 9), 2, -26, -2, 12);
      act(held(CHILD, 7, 5), 2, 7, -3, 12);
      act(held(CHILD, 0, 1), 2, 7, 7, 12);
      act(held(CATCHING, 0, 2), 2, -1, 0, 12);
    });
    term("(-15 if these are the same; that is all that act() answers then).", () -> {
      for (int n = 0; n < 8; n++) {
        for (int kind = 0; kind < 6; kind++) {
          boolean tellsByShare = kind == ILL || kind == CATCHING;
          CrossBook book = held(kind, n, n);
          same("shares of KIND " + kind + ", both " + n, book.act(0, 2, 8), PARTED);
          same("shares of 0", book.act(0, 2, 0), PARTED);
          same("tells of KIND " + kind + ", both " + n, book.act(0, 3, 8) == PARTED ? 1 : 0, tellsByShare ? 1 : 0);
          book.mind(n, kind, n + 1);
          same("shares, not the same", book.act(0, 2, 8) == PARTED ? 1 : 0, 0);
        }
      }
      act(held(TRUANT, 2, 2), 2, 8, PARTED, 61, 12);
      act(held(BAREFOOT, 2, 2), 2, 8, PARTED, 50, 12);
      act(held(ILL, 2, 2), 3, 8, PARTED, 31, 13, 11, 30, 10, 12);
    });
    term("13 tells: crosses(x) ^ a.", () -> {
      act(held(CHILD, 1, 9), 3, 5, 12 ^ 9, 13, 11, 10);
      act(held(CHILD, 1, 0), 3, -5, -8, 13, 11, 10);
      act(held(KEPT, 1, 9), 3, 5, 3 ^ 9, 13, 20, 11, 10);
    });
  }

  private static void ofPatients() {
    term("ill: 30 knocks: super.knocks(x) * 3.", () -> act(held(ILL, 2, 5), 0, 5, 21, 30, 10));
    term("31 tells: super.tells(x) + shares(n).", () -> {
      // crosses 42 ^ 5, and 2 by 3
      act(held(ILL, 2, 5), 3, 5, 47, 31, 13, 11, 30, 10, 12);
      // crosses 66 ^ 8, and 6 by 2
      act(held(ILL, 6, 8), 3, 5, 74 + 3, 31, 13, 11, 30, 10, 12);
    });
    term("catching: 40 knocks: 0 - super.knocks(x).", () -> {
      act(held(CATCHING, 2, 5), 0, 5, -21, 40, 30, 10);
      act(held(CATCHING, 2, 5), 0, -5, 9, 40, 30, 10);
    });
    term("41 crosses: super.crosses(x) + knocks(n).", () -> {
      // -21 * 2, and 0 - (2 + 2) * 3
      act(held(CATCHING, 2, 5), 1, 5, -54, 41, 11, 40, 30, 10, 40, 30, 10);
      // -54 ^ 5, and 2 by 3
      act(held(CATCHING, 2, 5), 3, 5, -54 ^ 5, 31, 13, 41, 11, 40, 30, 10, 40, 30, 10, 12);
    });
  }

  private static void ofOthers() {
    term("kept: 20 crosses: super.crosses(x) - a.", () -> {
      act(held(KEPT, 2, 5), 1, 5, 9, 20, 11, 10);
      act(held(KEPT, 2, 0), 1, 5, 14, 20, 11, 10);
      act(held(BAREFOOT, 2, 5), 1, 5, 5, 20, 11, 51, 10);
    });
    term("barefoot: 50 shares: super.shares(x + 2) ^ 1.", () -> {
      act(held(BAREFOOT, 2, 5), 2, 5, 3, 50, 12);
      act(held(BAREFOOT, 2, 5), 2, 10, 5, 50, 12);
      act(held(BAREFOOT, 2, 5), 2, 7, 2, 50, 12);
    });
    term("51 knocks: super.knocks(x) - n.", () -> {
      act(held(BAREFOOT, 2, 5), 0, 5, 5, 51, 10);
      act(held(BAREFOOT, 7, 5), 0, MAX, MAX, 51, 10);
    });
    term("truant: 60 tells: super.tells(x) * 2.", () -> act(held(TRUANT, 2, 5), 3, 5, (14 ^ 5) * 2, 60, 13, 11, 10));
    term("61 shares: super.shares(x) + knocks(a).", () -> {
      act(held(TRUANT, 2, 5), 2, 8, 2 + 7, 61, 12, 10);
      act(held(TRUANT, 7, 5), 2, 8, -4 + 12, 61, 12, 10);
    });
  }

  private static void trace() {
    term("THE TRACE: numbers of the bodies that ran in the latest act(), as they began (left first)", () -> {
      CrossBook book = held(CATCHING, 2, 5);
      same("no act yet", book.many(4), 0);
      act(book, 3, 5, -54 ^ 5, 31, 13, 41, 11, 40, 30, 10, 40, 30, 10, 12);
      act(book, 0, 5, -21, 40, 30, 10);
      act(book, 2, 7, 2, 12);
      book.keep();
      book.again();
      book.days(3);
      bodies(book, "the latest act, calls later", 12);
      act(book, 0, 5, -21, 40, 30, 10);
    });
    term("the first 30 are kept.", () -> {
      // no act runs as many: that with the most runs 11
      for (int kind = 0; kind < 6; kind++) {
        for (int act = 0; act < 4; act++) {
          CrossBook book = held(kind, 1, 3);
          book.act(0, act, 5);
          int ran = book.many(4);
          same("KIND " + kind + ", act " + act + ": some, 11 at most", ran >= 1 && ran <= 11 ? 1 : 0, 1);
          for (int i = 0; i < 32; i++) {
            same("body " + i, book.trace(i) >= 10 ? 1 : 0, i < ran ? 1 : 0);
          }
        }
      }
      CrossBook book = held(CATCHING, 1, 3);
      book.act(0, 3, 5);
      same("all 11", book.many(4), 11);
      same("the 11th", book.trace(10), 12);
    });
  }

  private static void sheets() {
    term("SHEETS 0 to 3 are rows of bytes (sort 0), shorts (1), ints (2) or longs (3), 40 at most, or missing (at first).", () -> {
      CrossBook book = new CrossBook();
      for (int sheet = 0; sheet < 4; sheet++) {
        same("missing at first", book.item(sheet, 0, 0), NOTHING);
        same("sheet() of 40", book.sheet(sheet, sheet, 40), 1);
        same("its first", book.item(sheet, sheet, 0), 0);
        same("its last", book.item(sheet, sheet, 39), 0);
        same("beyond it", book.item(sheet, sheet, 40), OUTSIDE);
        same("sheet() of 41", book.sheet(sheet, sheet, 41), BAD);
        book.put(sheet, 39, 0x12345678);
      }
      int[] due = {0x78, 0x5678, 0x12345678, 0x12345678};
      for (int sheet = 0; sheet < 4; sheet++) {
        same("sort " + sheet, book.item(sheet, sheet, 39), due[sheet]);
        same("missing", book.sheet(sheet, -1, 0), 1);
        same("missing", book.item(sheet, sheet, 39), NOTHING);
      }
      refusedOutside(0, 3, "SHEET", sheet -> book.sheet(sheet, 0, 1));
    });
  }

  private static void shelves() {
    term("SHELVES 0 to 3 hold a CHILD (by its number; nothing, if there is no such one any more), a SHEET's row, "
        + "or nothing (at first).", () -> {
      CrossBook book = new CrossBook();
      book.child(CHILD, 0, 0, 0);
      book.child(KEPT, 0, 0, 0);
      book.sheet(0, 2, 5);
      for (int shelf = 0; shelf < 4; shelf++) {
        same("nothing at first", book.taken(shelf, 0), NOTHING);
        book.shelf(shelf, 0, 1);
        same("a CHILD", book.taken(shelf, KEPT), 1);
      }
      refusedOutside(0, 3, "SHELF", shelf -> book.shelf(shelf, 2, 0));
      book.shelf(3, 1, 0);
      same("a SHEET's row", book.taken(3, 12), 5);
      book.mind(1, CATCHING, 5);
      same("by its number: of another KIND now", book.taken(0, ILL), 1);
      book.keep();
      Check.school(book, "truant 1 in 1;barefoot 1 in 1;");
      same("by its number: of another school now", book.taken(0, KEPT), 1);
      Check.school(book, "truant 1 in 1;");
      same("no such one any more", book.taken(0, CHILD), NOTHING);
      same("no such one any more, no act", book.act(0, 0, 5), 0);
      same("a row stays", book.taken(3, 12), 5);
      book.again();
      same("such a one again", book.taken(0, CATCHING), 1);
      book.sheet(0, 3, 7);
      same("a row stays, when its SHEET becomes another", book.taken(3, 12), 5);
      book.sheet(0, -1, 0);
      same("a row stays, when its SHEET is missing", book.taken(3, 12), 5);
      book.shelf(0, 2, 0);
      same("nothing", book.taken(0, CATCHING), NOTHING);
      same("another shelf's", book.taken(1, CATCHING), 1);
    });
  }

  private static void promise32() {
    promise(32, "A SHEET becomes a row of n of a sort, all 0, or missing (sort -1; n counts nothing then): 1.", () -> {
      CrossBook book = new CrossBook();
      for (int sort = 0; sort < 4; sort++) {
        for (int n : new int[] {0, 1, 40}) {
          same("sheet(1, " + sort + ", " + n + ")", book.sheet(1, sort, n), 1);
          same("the place behind its last", book.item(1, sort, n), OUTSIDE);
          for (int i = 0; i < n; i++) {
            same("item " + i, book.item(1, sort, i), 0);
            book.put(1, i, -1);
          }
        }
      }
      for (int n : new int[] {0, -1, 41, MIN, MAX}) {
        book.sheet(1, 0, 1);
        same("sheet(1, -1, " + n + ")", book.sheet(1, -1, n), 1);
        same("missing", book.item(1, 0, 0), NOTHING);
      }
      same("another SHEET", book.item(0, 0, 0), NOTHING);
    });
    promise(32, "BAD: no such SHEET, sort, n above 40", () -> {
      CrossBook book = new CrossBook();
      book.sheet(3, 3, 2);
      refusedOutside(0, 3, "SHEET", sheet -> book.sheet(sheet, 0, 1));
      refusedOutside(0, 3, "SHEET to be missing", sheet -> book.sheet(sheet, -1, 1));
      refusedOutside(-1, 3, "sort", sort -> book.sheet(3, sort, 1));
      for (int sort = 0; sort < 4; sort++) {
        same("41 of sort " + sort, book.sheet(3, sort, 41), BAD);
        same("MAX of sort " + sort, book.sheet(3, sort, MAX), BAD);
      }
      same("it stays", book.item(3, 3, 1), 0);
    });
    promise(32, "-14.", () -> {
      CrossBook book = new CrossBook();
      for (int sort = 0; sort < 4; sort++) {
        same("-1 of sort " + sort, book.sheet(0, sort, -1), BELOW);
        same("MIN of sort " + sort, book.sheet(0, sort, MIN), BELOW);
        same("0 of sort " + sort, book.sheet(1, sort, 0), 1);
      }
      same("it stays missing", book.item(0, 0, 0), NOTHING);
    });
  }

  private static void promise33() {
    promise(33, "Item i becomes v, narrowed to its sort: 1.", () -> {
      CrossBook book = new CrossBook();
      int[][] due = {
        {127, 127, 127}, {128, -128, 128}, {255, -1, 255}, {256, 0, 256}, {-129, 127, -129}, {-1, -1, -1},
        {32767, -1, 32767}, {32768, 0, -32768}, {65535, -1, -1}, {65536, 0, 0}, {-32769, -1, 32767}, {MAX, -1, -1}, {MIN, 0, 0}
      };
      for (int sort = 0; sort < 4; sort++) {
        book.sheet(sort, sort, 3);
        for (int[] one : due) {
          same("put(" + sort + ", 2, " + one[0] + ")", book.put(sort, 2, one[0]), 1);
          same("item of " + one[0], book.item(sort, sort, 2), sort < 2 ? one[1 + sort] : one[0]);
        }
        same("put into the first", book.put(sort, 0, 5), 1);
        same("item 0", book.item(sort, sort, 0), 5);
        same("item 1", book.item(sort, sort, 1), 0);
      }
    });
    promise(33, "BAD: no such SHEET", () -> refusedOutside(0, 3, "SHEET", sheet -> new CrossBook().put(sheet, 0, 1)));
    promise(33, "-11", () -> {
      CrossBook book = new CrossBook();
      for (int sheet = 0; sheet < 4; sheet++) {
        same("missing at first", book.put(sheet, 0, 1), NOTHING);
        same("missing, a place outside too", book.put(sheet, -1, 1), NOTHING);
      }
      book.sheet(0, 2, 2);
      book.sheet(0, -1, 2);
      same("missing again", book.put(0, 0, 1), NOTHING);
    });
    promise(33, "-12.", () -> outside((book, sheet, i) -> book.put(sheet, i, 1)));
  }

  private interface Placed {
    int answer(CrossBook book, int sheet, int i);
  }

  /** Places beside rows of 0, 1 and 40 items of each sort; sheet and sort are the same. */
  private static void outside(Placed call) {
    for (int sort = 0; sort < 4; sort++) {
      for (int n : new int[] {0, 1, 40}) {
        CrossBook book = new CrossBook();
        book.sheet(sort, sort, n);
        for (int i : new int[] {-1, n, 40, MIN, MAX}) {
          same("place " + i + " of " + n + ", sort " + sort, call.answer(book, sort, i), OUTSIDE);
        }
        same("the last of " + n + ", sort " + sort, call.answer(book, sort, n - 1) == OUTSIDE ? 1 : 0, n == 0 ? 1 : 0);
      }
    }
  }

  private static void promise34() {
    promise(34, "Item i, taken for a sort (0 to 3; of longs the lowest 32 bits).", () -> {
      CrossBook book = new CrossBook();
      for (int sort = 0; sort < 4; sort++) {
        book.sheet(sort, sort, 40);
        book.put(sort, 0, -7);
        book.put(sort, 39, 9);
        same("first of sort " + sort, book.item(sort, sort, 0), -7);
        same("last of sort " + sort, book.item(sort, sort, 39), 9);
      }
      for (int v : new int[] {MIN, MAX, -1}) {
        book.put(3, 1, v);
        same("of longs " + v, book.item(3, 3, 1), v);
      }
    });
    promise(34, "BAD: no such SHEET, sort", () -> {
      CrossBook book = new CrossBook();
      book.sheet(0, 0, 1);
      refusedOutside(0, 3, "SHEET", sheet -> book.item(sheet, 0, 0));
      refusedOutside(0, 3, "sort", sort -> book.item(0, sort, 0));
      refusedOutside(0, 3, "sort of a missing SHEET", sort -> book.item(1, sort, 0));
    });
    promise(34, "-11", () -> {
      CrossBook book = new CrossBook();
      for (int sheet = 0; sheet < 4; sheet++) {
        same("missing at first", book.item(sheet, 3, 0), NOTHING);
        same("missing, a place outside too", book.item(sheet, 0, 40), NOTHING);
      }
    });
    promise(34, "-13", () -> {
      CrossBook book = new CrossBook();
      for (int sort = 0; sort < 4; sort++) {
        book.sheet(sort, sort, 2);
        for (int as = 0; as < 4; as++) {
          same("sort " + sort + " as " + as, book.item(sort, as, 1), as == sort ? 0 : OTHER);
          same("sort " + sort + " as " + as + ", a place outside", book.item(sort, as, 2), as == sort ? OUTSIDE : OTHER);
        }
      }
    });
    promise(34, "-12.", () -> outside((book, sheet, i) -> book.item(sheet, sheet, i)));
    promise(34, "(An item may be as low as these, too.)", () -> {
      CrossBook book = new CrossBook();
      for (int sort = 0; sort < 4; sort++) {
        book.sheet(0, sort, 1);
        for (int v : new int[] {BAD, NOTHING, OUTSIDE, OTHER}) {
          book.put(0, 0, v);
          same("item " + v + " of sort " + sort, book.item(0, sort, 0), v);
        }
      }
    });
  }

  private static void promise35() {
    promise(35, "A SHELF holds CHILD n (what 0), the row of SHEET n (1; nothing, if missing), nothing (2): 1.", () -> {
      CrossBook book = illIn(0, 0, 0, 0, 0, 0, 0, 0);
      for (int shelf = 0; shelf < 4; shelf++) {
        for (int child = 0; child < 8; child += 7) {
          same("CHILD " + child, book.shelf(shelf, 0, child), 1);
          same("CHILD " + child + " taken", book.taken(shelf, ILL), child);
        }
        book.sheet(shelf, shelf, 40);
        same("a row", book.shelf(shelf, 1, shelf), 1);
        same("a row taken", book.taken(shelf, 10 + shelf), 40);
        book.sheet(shelf, shelf, 0);
        same("a row of none", book.shelf(shelf, 1, shelf), 1);
        same("a row of none taken", book.taken(shelf, 10 + shelf), 0);
        book.sheet(shelf, -1, 0);
        same("a missing one", book.shelf(shelf, 1, shelf), 1);
        same("a missing one taken", book.taken(shelf, 10 + shelf), NOTHING);
        for (int n : new int[] {0, -1, 99, MIN, MAX}) {
          book.shelf(shelf, 0, 0);
          same("nothing, n " + n, book.shelf(shelf, 2, n), 1);
          same("nothing taken", book.taken(shelf, ILL), NOTHING);
        }
      }
    });
    promise(35, "BAD: no such SHELF, what, thing.", () -> {
      CrossBook book = illIn(0, 0);
      book.shelf(1, 0, 1);
      refusedOutside(0, 3, "SHELF", shelf -> book.shelf(shelf, 0, 0));
      refusedOutside(0, 3, "SHELF for nothing", shelf -> book.shelf(shelf, 2, 0));
      refusedOutside(0, 2, "what", what -> book.shelf(1, what, 0));
      refusedOutside(0, 1, "CHILD", child -> book.shelf(1, 0, child));
      refusedOutside(0, 3, "SHEET", sheet -> book.shelf(1, 1, sheet));
      same("it stays", book.taken(1, ILL), 1);
    });
  }

  private static void promise36() {
    promise(36, "What a SHELF holds taken for a thing of KIND as (0 to 5, or one under it): its number", () -> {
      boolean[][] fits = {
        {true, false, false, false, false, false}, {true, true, false, false, false, false},
        {true, false, true, false, false, false}, {true, false, false, true, false, false},
        {true, true, false, false, true, false}, {true, false, true, false, false, true}
      };
      for (int kind = 0; kind < 6; kind++) {
        CrossBook book = held(kind, 7 - kind, 0);
        for (int as = 0; as < 6; as++) {
          same("KIND " + kind + " as " + as, book.taken(0, as), fits[kind][as] ? 7 - kind : OTHER);
        }
      }
    });
    promise(36, "for a row of sort as - 10 (as 10 to 13): how many items.", () -> {
      for (int sort = 0; sort < 4; sort++) {
        for (int n : new int[] {0, 1, 40}) {
          CrossBook book = new CrossBook();
          book.sheet(0, sort, n);
          book.shelf(3, 1, 0);
          same("sort " + sort + " of " + n, book.taken(3, 10 + sort), n);
        }
      }
    });
    promise(36, "BAD: no such SHELF, as", () -> {
      CrossBook book = held(CHILD, 0, 0);
      refusedOutside(0, 3, "SHELF", shelf -> book.taken(shelf, 0));
      IntUnaryOperator child = as -> book.taken(0, as);
      IntUnaryOperator nothing = as -> book.taken(1, as);
      for (int as : new int[] {-1, 6, 7, 8, 9, 14, MIN, MAX}) {
        same("a CHILD as " + as, child.applyAsInt(as), BAD);
        same("nothing as " + as, nothing.applyAsInt(as), BAD);
      }
    });
    promise(36, "-11", () -> {
      CrossBook book = held(CHILD, 0, 0);
      book.shelf(0, 2, 0);
      for (int shelf = 0; shelf < 4; shelf++) {
        for (int as : new int[] {0, 5, 10, 13}) {
          same("nothing on " + shelf + " as " + as, book.taken(shelf, as), NOTHING);
        }
      }
    });
    promise(36, "-13.", () -> {
      CrossBook book = held(KEPT, 0, 0);
      for (int as : new int[] {ILL, TRUANT, BAREFOOT, CATCHING, 10, 11, 12, 13}) {
        same("one that is kept as " + as, book.taken(0, as), OTHER);
      }
      for (int sort = 0; sort < 4; sort++) {
        book.sheet(0, sort, 1);
        book.shelf(0, 1, 0);
        for (int as = 0; as < 14; as++) {
          int due = as == 10 + sort ? 1 : as > 5 && as < 10 ? BAD : OTHER;
          same("a row of sort " + sort + " as " + as, book.taken(0, as), due);
        }
      }
    });
  }

  private static void promise37() {
    promise(37, "An ACT (0 to 3) of the thing on a SHELF, with x.", () -> {
      CrossBook book = held(CHILD, 1, 3);
      book.shelf(3, 0, 0);
      int[] due = {6, 12, 2, 15};
      for (int act = 0; act < 4; act++) {
        act(book, act, 5, due[act], new int[][] {{10}, {11, 10}, {12}, {13, 11, 10}}[act]);
      }
      same("another SHELF's", book.act(3, 0, 5), 5);
    });
    promise(37, "0, and no TRACE then: no such SHELF, act, nothing, a row.", () -> {
      CrossBook book = held(ILL, 1, 3);
      book.sheet(0, 2, 4);
      book.shelf(1, 1, 0);
      int[][] none = {{-1, 0}, {4, 0}, {MIN, 0}, {MAX, 0}, {0, -1}, {0, 4}, {0, MIN}, {0, MAX}, {1, 0}, {1, 3}, {2, 0}, {3, 3}};
      for (int[] one : none) {
        book.act(0, 3, 5);
        same("a TRACE", book.many(4), 6);
        same("act(" + one[0] + ", " + one[1] + ", 5)", book.act(one[0], one[1], 5), 0);
        bodies(book, "it");
      }
      book.shelf(0, 2, 0);
      same("nothing any more", book.act(0, 0, 5), 0);
      same("a refused one behind -15", actBehindParted(), 6);
    });
  }

  private static int actBehindParted() {
    CrossBook book = held(CHILD, 1, 1);
    act(book, 2, 5, PARTED, 12);
    same("no such act", book.act(0, 4, 5), 0);
    bodies(book, "no such act");
    return book.act(0, 0, 5);
  }

  private static void promises38And39() {
    promise(38, "THE TRACE's i-th body.", () -> {
      CrossBook book = held(CATCHING, 2, 5);
      book.act(0, 0, 5);
      same("the first", book.trace(0), 40);
      same("the last", book.trace(2), 10);
    });
    promise(38, "NONE.", () -> {
      CrossBook book = held(CATCHING, 2, 5);
      same("no act yet", book.trace(0), NONE);
      book.act(0, 3, 5);
      for (int i : new int[] {-1, 11, 29, 30, MIN, MAX}) {
        same("trace(" + i + ")", book.trace(i), NONE);
      }
      book.act(0, 2, 5);
      same("trace(1) of one body", book.trace(1), NONE);
      book.act(0, 4, 5);
      same("no TRACE", book.trace(0), NONE);
    });
    promise(39, "How many: what = 0 CHILDREN, 1 CROSSES in all, 2 ROWS, 3 bytes of THE TAPE, "
        + "4 bodies of THE TRACE (those kept, 30 at most).", () -> {
      CrossBook book = held(CATCHING, 7, 5);
      for (int what = 0; what < 5; what++) {
        same("many(" + what + ")", book.many(what), what == 0 ? 8 : 0);
      }
      book.days(40);
      same("all CROSSES", book.many(1), 320);
      book.write(0, 0, false);
      book.write(39, 7, false);
      same("CROSSES but two", book.many(1), 318);
      book.act(0, 3, 5);
      same("bodies", book.many(4), 11);
      Check.feed(book, " ".repeat(240));
      same("bytes", book.many(3), 240);
      book.school();
      book.prove(20);
      int[] due = {0, 0, 20, 0, 11};
      for (int what = 0; what < 5; what++) {
        same("many(" + what + ") of another school", book.many(what), due[what]);
      }
    });
    promise(39, "BAD: another what.", () -> refusedOutside(0, 4, "many", illIn(0)::many));
  }
}
