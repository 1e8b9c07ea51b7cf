/** Promises 19 to 26: trials, rounds, for good, meetings, the emptiest day, kinds by the book, lots. */
final class AheadTest {
  private static final Check CHECK = new Check("AheadTest");
  private static final int MIN = Integer.MIN_VALUE, MAX = Integer.MAX_VALUE;
  private static final int CHILD = 0, KEPT = 1, ILL = 2, TRUANT = 3, BAREFOOT = 4, CATCHING = 5;

  static void run() {
    promise19There();
    promise20Round();
    promise20RoundOfEqualSets();
    promise20Refusals();
    promise21Good();
    promise22Meet();
    promise23Least();
    promise24Fits();
    promise24FitsByRun();
    promise24FitsByA();
    promise25Seed();
    promise26Draw();
  }

  private static void promise19There() {
    CrossBook book = new CrossBook();
    CHECK.same("nobody", book.there(20), 0);
    book.child(KEPT, 0, 0, 0);
    book.child(ILL, 0, 1, 0);
    book.sick(1, 3);
    CHECK.same("0 days", book.there(0), 0);
    CHECK.same("1 day", book.there(1), 0);
    CHECK.same("4 days", book.there(4), 4);
    CHECK.same("20 days", book.there(20), 16 + 17);
    CHECK.same("nothing changes: today", book.today(), 0);
    CHECK.same("nothing changes: sick", book.childOf(1, 4), 3);
    CHECK.same("nothing changes: crosses", book.many(1), 0);
    book.days(35);
    CHECK.same("as many as are left", book.there(20), 4 + 5);
    book.days(5);
    CHECK.same("none are left", book.there(20), 0);
    for (int bad : new int[] {-1, 21, MIN, MAX}) {
      CHECK.same("bad n", book.there(bad), -1);
    }
  }

  private static void promise20Round() {
    CrossBook book = new CrossBook();
    // ill ones, who come for as long as a knock holds
    int[] houses = {0, 1, 1, 3, 3, 3, 5, 5};
    for (int i = 0; i < 8; i++) {
      book.child(ILL, 0, houses[i], 0);
      book.sick(i, 20);
    }
    CHECK.same("k 1, 5 days", book.round(1, 5, 0), 8);
    CHECK.same("k 1, there", book.round(1, 5, 1), 15);
    CHECK.same("k 2: the least of equal sets", book.round(2, 5, 0), 8 | 2);
    CHECK.same("k 2, there", book.round(2, 5, 1), 25);
    CHECK.same("k 3", book.round(3, 5, 0), 8 | 2 | 32);
    CHECK.same("k 3, there", book.round(3, 5, 1), 35);
    CHECK.same("k 3, 20 days: a knock holds for 5", book.round(3, 20, 1), 35);
    CHECK.same("nothing changes", book.childOf(3, 5), 0);
    CHECK.same("nothing changes", book.today(), 0);
    book.days(39);
    for (int i = 0; i < 8; i++) {
      book.sick(i, 20);
    }
    CHECK.same("one day is left", book.round(1, 20, 1), 3);
    for (int house = 0; house < 6; house++) {
      CrossBook other = new CrossBook();
      other.child(ILL, 0, house, 0);
      other.sick(0, 20);
      CHECK.same("the one house, " + house, other.round(3, 7, 0), 1 << house);
      CHECK.same("there", other.round(1, 7, 1), 5);
    }
    book.days(1);
    CHECK.same("none is left", book.round(3, 20, 0), 0);
    CHECK.same("nobody comes", book.round(3, 20, 1), 0);
  }

  private static void promise20RoundOfEqualSets() {
    CrossBook book = new CrossBook();
    book.child(CHILD, 0, 4, 0);
    CHECK.same("no knock is needed", book.round(3, 9, 0), 0);
    CHECK.same("all come", book.round(3, 9, 1), 9);
    book.child(KEPT, 1, 4, 0);
    book.child(KEPT, 1, 2, 0);
    CHECK.same("0 days", book.round(3, 0, 0), 0);
    CHECK.same("1 day, Monday", book.round(3, 1, 0), 0);
    CHECK.same("2 days, the least one", book.round(1, 2, 0), 4);
    CHECK.same("2 days, both", book.round(2, 2, 0), 4 | 16);
    CHECK.same("2 days, the fewest", book.round(3, 2, 0), 4 | 16);
    // a knock with a smaller STRONG would make a longer one shorter
    book.set(0, 20);
    book.knock(4);
    book.set(0, 1);
    CHECK.same("rather no knock at 4", book.round(3, 2, 0), 0);
    CHECK.same("there", book.round(3, 2, 1), 5);
  }

  private static void promise20Refusals() {
    CrossBook book = new CrossBook();
    for (int bad : new int[] {-1, 0, 4, MIN, MAX}) {
      CHECK.same("bad k", book.round(bad, 5, 0), -1);
    }
    for (int bad : new int[] {-1, 21, MIN, MAX}) {
      CHECK.same("bad n", book.round(1, bad, 0), -1);
    }
    for (int bad : new int[] {-1, 2, MIN, MAX}) {
      CHECK.same("bad what", book.round(1, 5, bad), -1);
    }
  }

  private static void promise21Good() {
    CrossBook book = new CrossBook();
    book.set(1, 3);
    book.child(ILL, 0, 0, 0);
    book.child(CHILD, 0, 0, 9);
    CHECK.same("never", book.good(0), -3);
    book.sick(0, 2);
    CHECK.same("not long enough", book.good(0), -3);
    book.sick(0, 3);
    CHECK.same("behind day 2", book.good(0), 2);
    book.event(37, 16);
    book.event(38, 16);
    CHECK.same("two days", book.good(1), -3);
    book.event(39, 16);
    CHECK.same("behind day 39", book.good(1), 39);
    book.days(3);
    CHECK.same("it is so now", book.good(0), 2);
    CHECK.same("today stays", book.today(), 3);
    book.sick(0, 20);
    book.days(2);
    CHECK.same("it is still so", book.good(0), 4);
    book.set(1, 30);
    CHECK.same("20 more aren't 30", book.good(0), -3);
    book.set(1, 23);
    CHECK.same("5 and 18 more are 23", book.good(0), 22);
    book.days(40);
    CHECK.same("in the end", book.good(1), -3);
    book.set(1, 3);
    CHECK.same("in the end, so now", book.good(1), 39);
    for (int bad : new int[] {-1, 2, MIN, MAX}) {
      CHECK.same("no such child", book.good(bad), -1);
    }
  }

  private static void promise22Meet() {
    CrossBook book = new CrossBook();
    book.child(KEPT, 0, 0, 0);
    book.child(KEPT, 1, 0, 0);
    book.child(CHILD, 1, 0, 0);
    CHECK.same("0 and 1", book.meet(0, 1, 5), 3);
    CHECK.same("1 and 0", book.meet(1, 0, 20), 12);
    CHECK.same("0 and 2", book.meet(0, 2, 20), 16);
    CHECK.same("no days", book.meet(0, 2, 0), 0);
    book.days(38);
    CHECK.same("Thursday", book.meet(0, 1, 1), 1);
    CHECK.same("Thursday and Friday", book.meet(0, 1, 20), 2);
    book.days(2);
    CHECK.same("none are left", book.meet(0, 1, 20), 0);
    for (int bad : new int[] {-1, 3, MIN, MAX}) {
      CHECK.same("no such first", book.meet(bad, 0, 1), -1);
      CHECK.same("no such second", book.meet(0, bad, 1), -1);
    }
    CHECK.same("the same", book.meet(1, 1, 5), -1);
    for (int bad : new int[] {-1, 21, MIN, MAX}) {
      CHECK.same("bad n", book.meet(0, 1, bad), -1);
    }
  }

  private static void promise23Least() {
    CrossBook book = new CrossBook();
    CHECK.same("nobody on any day", book.least(20), 0);
    book.child(KEPT, 3, 0, 0);
    book.child(KEPT, 3, 0, 0);
    book.child(KEPT, 1, 0, 0);
    CHECK.same("1 day", book.least(1), 0);
    CHECK.same("3 days", book.least(3), 1);
    CHECK.same("4 days", book.least(4), 3);
    CHECK.same("20 days, the first", book.least(20), 3);
    book.days(4);
    CHECK.same("from day 4", book.least(20), 8);
    book.days(35);
    CHECK.same("the last day", book.least(20), 39);
    book.days(1);
    CHECK.same("none are left", book.least(1), -3);
    for (int bad : new int[] {-1, 0, 21, MIN, MAX}) {
      CHECK.same("BAD ahead of NONE", book.least(bad), -1);
    }
    CrossBook full = new CrossBook();
    for (int i = 0; i < 8; i++) {
      full.child(CHILD, 0, 0, 0);
    }
    full.days(3);
    CHECK.same("all are there on each day", full.least(20), 3);
  }

  private static void promise24FitsByA() {
    CrossBook first = new CrossBook();
    first.set(1, 2);
    Check.school(first, "child 0 in 0;today 2;day 0 4;");
    CHECK.same("nobody is away ahead of day 0", first.fits(0), 1 << ILL | 1 << BAREFOOT | 1 << CATCHING);
    first.event(1, 4);
    CHECK.same("two circuses", first.fits(0), 1 << ILL | 1 << TRUANT | 1 << BAREFOOT | 1 << CATCHING);
    for (int kind : new int[] {KEPT, BAREFOOT}) {
      for (int a = 0; a < 10; a++) {
        CrossBook book = new CrossBook();
        book.child(kind, a, 0, 0);
        book.days(40);
        CHECK.same("kind " + kind + ", A " + a, book.fits(0), 1 << kind | 1 << ILL | 1 << CATCHING);
      }
    }
    // for each length of a run away, a truant fits just if LOST is as long
    for (int run = 2; run <= 8; run++) {
      for (int lost = 2; lost <= 10; lost++) {
        CrossBook book = new CrossBook();
        book.set(1, lost);
        book.child(CHILD, 0, 0, 0);
        book.days(20);
        for (int day = 3; day < 3 + run; day++) {
          book.event(day, 4);
          book.write(day, 0, false);
        }
        book.write(3 + run, 0, false);
        boolean fits = (book.fits(0) & 1 << TRUANT) != 0;
        // one more day without a cross, then one with a cross
        CHECK.yes("run " + run + ", lost " + lost + ": no end of it", !fits);
        book.event(4 + run, 8);
        fits = (book.fits(0) & 1 << TRUANT) != 0;
        int weekday = (3 + run) % 5;
        // a truant of A 5 is away on Mondays and Fridays, but days 0 and 19 have crosses
        CHECK.yes("run " + run + ", lost " + lost + ", weekday " + weekday, fits == (run >= lost));
      }
    }
  }

  private static void promise24Fits() {
    CrossBook book = new CrossBook();
    CHECK.same("no child", book.fits(0), -1);
    book.child(CHILD, 0, 0, 5);
    book.child(CHILD, 0, 0, 6);
    CHECK.same("no day: all kinds", book.fits(0), 63);
    // day 0 is a plain Monday: a cross fits all kinds
    book.days(1);
    CHECK.same("a cross", book.fits(0), 63);
    book.write(0, 0, false);
    CHECK.same("no cross on a Monday", book.fits(0), 1 << KEPT | 1 << ILL | 1 << TRUANT | 1 << BAREFOOT | 1 << CATCHING);
    book.write(0, 0, true);
    book.event(0, 1);
    CHECK.same("a cross on a paper day", book.fits(0), 1 << CHILD | 1 << KEPT | 1 << ILL | 1 << BAREFOOT);
    book.write(0, 0, false);
    CHECK.same("none on a paper day", book.fits(0), 1 << KEPT | 1 << ILL | 1 << TRUANT | 1 << BAREFOOT | 1 << CATCHING);
    book.event(0, 8);
    CHECK.same("none with the inspector", book.fits(0), 1 << ILL | 1 << CATCHING);
    book.write(0, 0, true);
    CHECK.same("a cross with the inspector", book.fits(0), 63);
    book.event(0, 16);
    CHECK.same("a cross in a flood, near", book.fits(0), 63);
    CHECK.same("a cross in a flood, far", book.fits(1), 0);
    book.write(0, 1, false);
    CHECK.same("none in a flood, far", book.fits(1), 63);
    book.event(0, 31);
    CHECK.same("none in a flood, far, with all", book.fits(1), 63);
    book.event(0, 2);
    CHECK.same("a cross with herring", book.fits(0), 1 << CHILD | 1 << ILL | 1 << TRUANT | 1 << CATCHING);
    book.event(0, 4);
    CHECK.same("a cross with a circus", book.fits(0), 63 & ~(1 << TRUANT));
    for (int bad : new int[] {-1, 2, MIN, MAX}) {
      CHECK.same("no such child", book.fits(bad), -1);
    }
  }

  private static void promise24FitsByRun() {
    CrossBook book = new CrossBook();
    book.set(1, 2);
    Check.school(book, "truant 0 in 0;day 0 4;day 1 4;day 5 8;today 0;");
    book.days(7);
    CHECK.same("away till the inspector comes", book.marks(0), 2);
    CHECK.same("lost once away for 2", book.fits(0), 1 << ILL | 1 << TRUANT | 1 << CATCHING);
    book.set(1, 6);
    CHECK.same("not lost by then", book.fits(0), 1 << ILL | 1 << CATCHING);
    // the run is that of the book, also where it is false
    CrossBook other = new CrossBook();
    other.set(1, 2);
    other.child(CHILD, 0, 0, 0);
    other.event(0, 4);
    other.event(1, 4);
    other.days(4);
    for (int day = 0; day < 4; day++) {
      other.write(day, 0, false);
    }
    CHECK.same("a run in the book alone", other.fits(0), 1 << ILL | 1 << TRUANT | 1 << CATCHING);
    other.write(1, 0, true);
    // a barefoot one with A 3 is away on days 0, 2 and 3 alone
    CHECK.same("parted by a cross", other.fits(0), 1 << ILL | 1 << BAREFOOT | 1 << CATCHING);
    other.event(1, 12);
    CHECK.same("parted by the inspector", other.fits(0), 1 << ILL | 1 << BAREFOOT | 1 << CATCHING);
    // sickness and a knock don't count
    CrossBook third = new CrossBook();
    third.child(CATCHING, 0, 0, 0);
    third.event(0, 1);
    third.sick(0, 9);
    third.knock(0);
    third.days(1);
    CHECK.same("there by a knock", third.marks(0), 1);
    CHECK.same("no catching one by the book", third.fits(0), 1 << CHILD | 1 << KEPT | 1 << ILL | 1 << BAREFOOT);
    CrossBook fourth = new CrossBook();
    Check.school(fourth, "barefoot 3 in 0;");
    fourth.days(20);
    CHECK.same("barefoot", fourth.fits(0), 1 << ILL | 1 << BAREFOOT | 1 << CATCHING);
    Check.school(fourth, "kept 8 in 0;");
    fourth.days(20);
    CHECK.same("kept", fourth.fits(0), 1 << KEPT | 1 << ILL | 1 << CATCHING);
    Check.school(fourth, "truant 5 in 0;");
    fourth.days(20);
    CHECK.same("truant", fourth.fits(0), 1 << ILL | 1 << TRUANT | 1 << CATCHING);
  }

  private static void promise25Seed() {
    CrossBook book = new CrossBook();
    CHECK.same("1 at first", book.seed(MIN), 1);
    CHECK.same("MIN", book.seed(MAX), MIN);
    CHECK.same("MAX", book.seed(-1), MAX);
    CHECK.same("-1", book.seed(0), -1);
  }

  private static void promise26Draw() {
    CrossBook book = new CrossBook();
    CHECK.same("nobody", book.draw(), -3);
    CHECK.same("z stays", book.seed(1), 1);
    book.child(KEPT, 0, 0, 0);
    CHECK.same("nobody would be there", book.draw(), -3);
    CHECK.same("z stays", book.seed(1), 1);
    for (int i = 1; i < 8; i++) {
      book.child(i % 2 == 0 ? KEPT : CHILD, 0, 0, 0);
    }
    int[] there = {1, 3, 5, 7};
    int z = 1;
    for (int i = 0; i < 50; i++) {
      z = z * 1103515245 + 12345;
      CHECK.same("draw " + i, book.draw(), there[(z >>> 16) % 4]);
    }
    CHECK.same("z went on", book.seed(-5), z);
    book.draw();
    CHECK.same("z wraps", book.seed(1), -5 * 1103515245 + 12345);
    book.days(1);
    z = 1;
    for (int i = 0; i < 50; i++) {
      z = z * 1103515245 + 12345;
      CHECK.same("draw of all, " + i, book.draw(), (z >>> 16) % 8);
    }
    for (int i = 0; i < 7; i++) {
      book.mind(i, KEPT, 1);
    }
    z = z * 1103515245 + 12345;
    CHECK.same("the one who is there", book.draw(), 7);
    book.days(40);
    CHECK.same("in the end", book.draw(), -4);
    CHECK.same("z stays", book.seed(1), z);
    CrossBook empty = new CrossBook();
    empty.days(40);
    CHECK.same("NONE ahead of STATE", empty.draw(), -3);
  }
}
