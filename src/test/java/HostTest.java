/** Promises 32 to 39: sheets, shelves, acts and their trace, counts. */
final class HostTest {
  private static final Check CHECK = new Check("HostTest");
  private static final int MIN = Integer.MIN_VALUE, MAX = Integer.MAX_VALUE;

  static void run() {
    promise32Sheet();
    promise33Put();
    promise34Item();
    promise35Shelf();
    promise36Taken();
    promise36TakenLater();
    promise37ActByKinds();
    promise37ActEdges();
    promise38Trace();
    promise39Many();
  }

  private static void promise32Sheet() {
    CrossBook book = new CrossBook();
    for (int bad : new int[] {-1, 4, MIN, MAX}) {
      CHECK.same("no such sheet", book.sheet(bad, 0, 1), -1);
    }
    for (int bad : new int[] {-2, 4, MIN, MAX}) {
      CHECK.same("no such sort", book.sheet(0, bad, 1), -1);
      CHECK.same("BAD ahead of -14", book.sheet(0, bad, -1), -1);
    }
    for (int sort = 0; sort < 4; sort++) {
      CHECK.same("41", book.sheet(0, sort, 41), -1);
      CHECK.same("MAX", book.sheet(0, sort, MAX), -1);
      CHECK.same("-1", book.sheet(0, sort, -1), -14);
      CHECK.same("MIN", book.sheet(0, sort, MIN), -14);
      CHECK.same("missing sheet, bad n", book.sheet(7, sort, -1), -1);
      CHECK.same("40", book.sheet(sort, sort, 40), 1);
      CHECK.same("item 39", book.item(sort, sort, 39), 0);
      book.put(sort, 39, 5);
      book.put(sort, 0, 5);
      CHECK.same("again", book.sheet(sort, sort, 40), 1);
      CHECK.same("all 0 from the first", book.item(sort, sort, 0), 0);
      CHECK.same("all 0", book.item(sort, sort, 39), 0);
      CHECK.same("0", book.sheet(sort, sort, 0), 1);
      CHECK.same("no item", book.item(sort, sort, 0), -12);
    }
    for (int n : new int[] {0, -1, 41, MIN, MAX}) {
      CHECK.same("n counts nothing", book.sheet(0, -1, n), 1);
      CHECK.same("missing", book.item(0, 0, 0), -11);
    }
  }

  private static void promise33Put() {
    CrossBook book = new CrossBook();
    CHECK.same("missing", book.put(0, 0, 1), -11);
    for (int sort = 0; sort < 4; sort++) {
      book.sheet(sort, sort, 3);
      int[] values = {0, 1, -1, 127, 128, 255, 256, 32767, 32768, 65535, 70000, MIN, MAX};
      for (int v : values) {
        CHECK.same("put " + v, book.put(sort, 2, v), 1);
        int due = sort == 0 ? (byte) v : sort == 1 ? (short) v : v;
        CHECK.same("sort " + sort + " of " + v, book.item(sort, sort, 2), due);
      }
      CHECK.same("the one ahead stays", book.item(sort, sort, 1), 0);
      for (int bad : new int[] {-1, 3, 40, MIN, MAX}) {
        CHECK.same("no such place", book.put(sort, bad, 1), -12);
      }
    }
    for (int bad : new int[] {-1, 4, MIN, MAX}) {
      CHECK.same("no such sheet", book.put(bad, 0, 1), -1);
    }
    book.sheet(0, -1, 0);
    CHECK.same("-11 ahead of -12", book.put(0, -1, 1), -11);
  }

  private static void promise34Item() {
    CrossBook book = new CrossBook();
    for (int bad : new int[] {-1, 4, MIN, MAX}) {
      CHECK.same("no such sheet", book.item(bad, 0, 0), -1);
      CHECK.same("no such sort", book.item(0, bad, 0), -1);
    }
    CHECK.same("missing, ahead of -12", book.item(0, 0, -1), -11);
    for (int sort = 0; sort < 4; sort++) {
      book.sheet(0, sort, 2);
      book.put(0, 1, -13);
      for (int as = 0; as < 4; as++) {
        CHECK.same("sort " + sort + " as " + as, book.item(0, as, 1), -13);
        CHECK.same("sort " + sort + " as " + as + ", first", book.item(0, as, 0), as == sort ? 0 : -13);
        CHECK.same("-13 ahead of -12", book.item(0, as, 2), as == sort ? -12 : -13);
      }
      for (int bad : new int[] {-1, 2, 40, MIN, MAX}) {
        CHECK.same("no such place", book.item(0, sort, bad), -12);
      }
    }
  }

  private static void promise35Shelf() {
    CrossBook book = new CrossBook();
    book.child(0, 0, 0, 0);
    book.sheet(1, 2, 7);
    for (int bad : new int[] {-1, 4, MIN, MAX}) {
      CHECK.same("no such shelf", book.shelf(bad, 2, 0), -1);
      CHECK.same("no such sheet", book.shelf(0, 1, bad), -1);
    }
    for (int bad : new int[] {-1, 3, MIN, MAX}) {
      CHECK.same("no such what", book.shelf(0, bad, 0), -1);
    }
    for (int bad : new int[] {-1, 1, 8, MIN, MAX}) {
      CHECK.same("no such child", book.shelf(0, 0, bad), -1);
    }
    for (int shelf = 0; shelf < 4; shelf++) {
      CHECK.same("a child", book.shelf(shelf, 0, 0), 1);
      CHECK.same("held", book.taken(shelf, 0), 0);
      CHECK.same("a refusal changes nothing", book.shelf(shelf, 0, 1), -1);
      CHECK.same("still held", book.taken(shelf, 0), 0);
      CHECK.same("a row", book.shelf(shelf, 1, 1), 1);
      CHECK.same("held", book.taken(shelf, 12), 7);
      CHECK.same("a missing one", book.shelf(shelf, 1, 0), 1);
      CHECK.same("nothing", book.taken(shelf, 12), -11);
      book.shelf(shelf, 0, 0);
      CHECK.same("nothing, n counts nothing", book.shelf(shelf, 2, MIN), 1);
      CHECK.same("nothing", book.taken(shelf, 0), -11);
    }
  }

  private static void promise36Taken() {
    CrossBook book = new CrossBook();
    boolean[][] under = new boolean[6][6];
    int[][] chains = {{0}, {1, 0}, {2, 0}, {3, 0}, {4, 1, 0}, {5, 2, 0}};
    for (int kind = 0; kind < 6; kind++) {
      book.child(kind, 0, 0, 0);
      for (int as : chains[kind]) {
        under[kind][as] = true;
      }
    }
    for (int kind = 0; kind < 6; kind++) {
      book.shelf(2, 0, kind);
      for (int as = 0; as < 6; as++) {
        CHECK.same("kind " + kind + " as " + as, book.taken(2, as), under[kind][as] ? kind : -13);
      }
      for (int as = 10; as < 14; as++) {
        CHECK.same("a child as a row", book.taken(2, as), -13);
      }
    }
    for (int sort = 0; sort < 4; sort++) {
      book.sheet(sort, sort, sort * 13);
      book.shelf(2, 1, sort);
      for (int as = 0; as < 6; as++) {
        CHECK.same("a row as a child", book.taken(2, as), -13);
      }
      for (int as = 10; as < 14; as++) {
        CHECK.same("sort " + sort + " as " + as, book.taken(2, as), as - 10 == sort ? sort * 13 : -13);
      }
    }
    for (int bad : new int[] {-1, 4, MIN, MAX}) {
      CHECK.same("no such shelf", book.taken(bad, 0), -1);
    }
    for (int bad : new int[] {-1, 6, 9, 14, MIN, MAX}) {
      CHECK.same("no such as", book.taken(2, bad), -1);
      CHECK.same("BAD ahead of -11", book.taken(0, bad), -1);
    }
    CHECK.same("nothing", book.taken(0, 0), -11);
    CHECK.same("nothing", book.taken(0, 13), -11);
  }

  private static void promise36TakenLater() {
    CrossBook book = new CrossBook();
    book.child(1, 0, 0, 0);
    book.child(1, 0, 0, 0);
    book.shelf(0, 0, 1);
    book.mind(1, 5, 0);
    CHECK.same("it is of its kind of now", book.taken(0, 2), 1);
    CHECK.same("no more of the other", book.taken(0, 1), -13);
    book.keep();
    Check.school(book, "ill 1 in 1;");
    CHECK.same("there is no such one any more", book.taken(0, 0), -11);
    CHECK.same("no act of it", book.act(0, 0, 4), 0);
    book.again();
    CHECK.same("there is one again", book.taken(0, 5), 1);
    book.sheet(0, 1, 9);
    book.shelf(1, 1, 0);
    book.sheet(0, 3, 2);
    CHECK.same("the row stays on the shelf", book.taken(1, 11), 9);
    book.sheet(0, -1, 0);
    CHECK.same("the row stays on the shelf", book.taken(1, 11), 9);
  }

  /** The acts of each kind, written out by hand. */
  private static int knocks(int kind, int n, int a, int x) {
    switch (kind) {
      case 2:
        return (x + n) * 3;
      case 4:
        return x + n - n;
      case 5:
        return 0 - (x + n) * 3;
      default:
        return x + n;
    }
  }

  private static int crosses(int kind, int n, int a, int x) {
    int plain = knocks(kind, n, a, x) * 2;
    if (kind == 1 || kind == 4) {
      return plain - a;
    }
    return kind == 5 ? plain + knocks(kind, n, a, n) : plain;
  }

  private static int shares(int kind, int n, int a, int x) {
    if (kind == 4) {
      return (x + 2) / (a - n) ^ 1;
    }
    return kind == 3 ? x / (a - n) + knocks(kind, n, a, a) : x / (a - n);
  }

  private static int tells(int kind, int n, int a, int x) {
    int plain = crosses(kind, n, a, x) ^ a;
    if (kind == 2 || kind == 5) {
      return plain + shares(kind, n, a, n);
    }
    return kind == 3 ? plain * 2 : plain;
  }

  private static int due(int act, int kind, int n, int a, int x) {
    boolean parts = act == 2 || act == 3 && (kind == 2 || kind == 5);
    if (parts && a == n) {
      return -15;
    }
    switch (act) {
      case 0:
        return knocks(kind, n, a, x);
      case 1:
        return crosses(kind, n, a, x);
      case 2:
        return shares(kind, n, a, x);
      default:
        return tells(kind, n, a, x);
    }
  }

  private static void promise37ActByKinds() {
    int[] numbers = {0, 1, -1, 7, -100, 12345, MAX, MIN, MAX - 1, 1431655766};
    for (int kind = 0; kind < 6; kind++) {
      for (int n = 0; n < 8; n++) {
        for (int a = 0; a < 10; a++) {
          CrossBook book = new CrossBook();
          for (int i = 0; i <= n; i++) {
            book.child(kind, a, 0, 0);
          }
          book.shelf(3, 0, n);
          for (int act = 0; act < 4; act++) {
            for (int x : numbers) {
              String of = "act " + act + " of kind " + kind + ", n " + n + ", a " + a + ", x " + x;
              CHECK.same(of, book.act(3, act, x), due(act, kind, n, a, x));
            }
          }
        }
      }
    }
  }

  private static void promise37ActEdges() {
    CrossBook book = new CrossBook();
    book.child(5, 0, 0, 0);
    book.sheet(0, 2, 3);
    book.shelf(0, 0, 0);
    book.shelf(1, 1, 0);
    int[][] none = {{-1, 0}, {4, 0}, {MIN, 0}, {MAX, 0}, {0, -1}, {0, 4}, {0, MIN}, {0, MAX}, {1, 0}, {2, 0}};
    for (int[] b : none) {
      book.act(0, 0, 5);
      CHECK.same("a trace", book.many(4), 3);
      CHECK.same("no act", book.act(b[0], b[1], 5), 0);
      CHECK.same("no trace", book.many(4), 0);
      CHECK.same("no body", book.trace(0), -3);
    }
    CHECK.same("parted by 0", book.act(0, 2, 5), -15);
    CHECK.same("not parted", book.act(0, 0, 5), -15);
    CHECK.same("knocks", book.act(0, 0, 6), -18);
  }

  private static void promise38Trace() {
    int[][][] due = {
      {{10}, {11, 10}, {12}, {13, 11, 10}},
      {{10}, {20, 11, 10}, {12}, {13, 20, 11, 10}},
      {{30, 10}, {11, 30, 10}, {12}, {31, 13, 11, 30, 10, 12}},
      {{10}, {11, 10}, {61, 12, 10}, {60, 13, 11, 10}},
      {{51, 10}, {20, 11, 51, 10}, {50, 12}, {13, 20, 11, 51, 10}},
      {{40, 30, 10}, {41, 11, 40, 30, 10, 40, 30, 10}, {12}, {31, 13, 41, 11, 40, 30, 10, 40, 30, 10, 12}}
    };
    CrossBook book = new CrossBook();
    CHECK.same("no act yet", book.trace(0), -3);
    for (int kind = 0; kind < 6; kind++) {
      book.child(kind, 9, 0, 0);
      book.shelf(0, 0, kind);
      for (int act = 0; act < 4; act++) {
        book.act(0, act, 3);
        trace(book, "kind " + kind + ", act " + act, due[kind][act]);
      }
    }
    book.mind(3, 3, 3);
    book.shelf(0, 0, 3);
    book.act(0, 2, 8);
    trace(book, "parted ahead of knocks", new int[] {61, 12});
    book.mind(4, 4, 4);
    book.shelf(0, 0, 4);
    book.act(0, 2, 8);
    trace(book, "parted in super", new int[] {50, 12});
    book.act(0, 3, 8);
    trace(book, "another act", due[4][3]);
    book.keep();
    book.again();
    trace(book, "it stays", due[4][3]);
    book.school();
    trace(book, "it stays for another school", due[4][3]);
    for (int bad : new int[] {-1, 5, 30, MIN, MAX}) {
      CHECK.same("no such body", book.trace(bad), -3);
    }
  }

  private static void trace(CrossBook book, String of, int[] due) {
    CHECK.same(of + ": bodies", book.many(4), due.length);
    for (int i = 0; i < due.length; i++) {
      CHECK.same(of + ": body " + i, book.trace(i), due[i]);
    }
    CHECK.same(of + ": no more", book.trace(due.length), -3);
  }

  private static void promise39Many() {
    CrossBook book = new CrossBook();
    book.child(0, 0, 0, 0);
    book.child(3, 0, 0, 0);
    book.days(4);
    book.prove(6);
    book.feed(0, 7);
    book.shelf(0, 0, 0);
    book.act(0, 3, 1);
    int[] due = {2, 8, 6, 7, 3};
    for (int what = 0; what < 5; what++) {
      CHECK.same("many(" + what + ")", book.many(what), due[what]);
    }
    book.write(0, 1, false);
    CHECK.same("crosses", book.many(1), 7);
    for (int bad : new int[] {-1, 5, MIN, MAX}) {
      CHECK.same("another what", book.many(bad), -1);
    }
  }
}
