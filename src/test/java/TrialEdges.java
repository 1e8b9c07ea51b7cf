/** The sentences on knocks, trials, kinds by the book and lots (section 2), and promises 19 to 26. */
final class TrialEdges extends Edge {
  static void run() {
    knocks();
    trials();
    rounds();
    roundOfEqual();
    good();
    meetAndLeast();
    fits();
    fitsByWhat();
    fitsByBook();
    drawn();
    promises19And20();
    promises21To23();
    promises24And25();
    promise26();
  }

  private static void knocks() {
    term("2 TO KNOCK at a HOUSE: KNOCK of all CHILDREN in it becomes STRONG.", () -> {
      CrossBook book = illIn(0, 5, 0, 1);
      book.set(STRONG, 9);
      book.knock(0);
      int[] due = {9, 0, 9, 0};
      for (int child = 0; child < 4; child++) {
        same("KNOCK of " + child, book.childOf(child, 5), due[child]);
      }
      book.set(STRONG, 2);
      same("KNOCK, when STRONG changes", book.childOf(0, 5), 9);
      book.knock(0);
      same("KNOCK, which was more", book.childOf(0, 5), 2);
      book.child(ILL, 0, 0, 0);
      same("KNOCK of one that comes later", book.childOf(4, 5), 0);
    });
  }

  private static void trials() {
    term("A TRIAL of n DAYS (0 to 20, as many as are left at most) goes on from all as it is", () -> {
      CrossBook book = illIn(0, 1);
      book.sick(1, 0);
      same("0 DAYS", book.there(0), 0);
      same("20 DAYS", book.there(20), 20);
      refusedOutside(0, 20, "there", book::there);
      book.sick(0, 18);
      same("SICK as it is", book.there(20), 22);
      book.knock(0);
      same("KNOCK as it is", book.there(20), 27);
      book.days(37);
      book.event(38, FLOOD);
      book.child(CHILD, 0, 0, 6);
      same("EVENTS as they are, 3 DAYS left", book.there(20), 8);
      book.days(2);
      same("1 DAY left", book.there(20), 3);
      book.days(1);
      same("none left", book.there(20), 0);
      CrossBook away = awayFor(2, TRUANT, 0);
      same("AWAY as it is", away.there(9), 9);
      away.set(LOST, 2);
      same("LAWS as they are", away.there(9), 0);
    });
    term("nothing changes.", () -> {
      CrossBook book = busy();
      book.there(20);
      book.round(3, 20, 0);
      book.round(2, 20, 1);
      book.good(0);
      book.meet(0, 1, 20);
      book.least(20);
      book.fits(2);
      book.judge();
      sameText("all", picture(book), picture(busy()));
      CrossBook proved = busy();
      proved.prove(20);
      proved.prove(2);
      sameText("all, with the same ROWS", picture(proved), picture(busy()));
    });
    term("THERE of it: how many CROSSES truly come.", () -> {
      CrossBook book = illIn(0, 1, 2);
      book.sick(1, 4);
      book.sick(2, 0);
      book.days(2);
      book.write(0, 0, true);
      same("of those to come alone", book.there(5), 3 + 5);
      same("they come", book.days(5), 7);
      same("CROSSES", book.many(1), 3 + 5 + 3);
    });
  }

  /** A school on day 5 with ROWS, in which a trial changes whatever can be changed. */
  private static CrossBook busy() {
    CrossBook book = illIn(0, 1, 2);
    book.set(TOUCH, 1);
    book.child(CATCHING, 0, 0, 0);
    book.child(TRUANT, 5, 0, 0);
    book.event(7, PAPER);
    book.days(5);
    book.knock(1);
    book.write(1, 0, true);
    book.seed(5);
    book.prove(2);
    return book;
  }

  private static void rounds() {
    term("ROUND by k (1 to 3) and n: of all sets of k HOUSES or fewer (0 to 5) at which one could knock now "
        + "the one with which THERE of n DAYS is most", () -> {
      // one ill child in house 0, two in 1, three in 5: each comes for as long as a knock holds
      CrossBook book = illIn(0, 1, 1, 5, 5, 5);
      int[][] due = {{1 << 5, 15}, {1 << 5 | 1 << 1, 25}, {1 << 5 | 1 << 1 | 1, 30}};
      for (int k = 1; k <= 3; k++) {
        same("round(" + k + ", 9, 0)", book.round(k, 9, 0), due[k - 1][0]);
        same("round(" + k + ", 9, 1)", book.round(k, 9, 1), due[k - 1][1]);
      }
      refusedOutside(1, 3, "k", k -> book.round(k, 9, 0));
      refusedOutside(0, 20, "n", n -> book.round(1, n, 0));
      same("n 20", book.round(3, 20, 1), 30);
      same("n 1", book.round(3, 1, 1), 6);
      CrossBook all = illIn(0, 1, 2, 3, 4, 5);
      same("no more than 3 of 6", all.round(3, 1, 1), 3);
      for (int house = 0; house < 6; house++) {
        same("fewer than k: house " + house, illIn(house).round(3, 9, 0), 1 << house);
      }
      book.days(39);
      same("SICK is over", book.round(3, 20, 0), 0);
      book.sick(1, 1);
      same("1 DAY left", book.round(3, 20, 0), 2);
      same("1 DAY left", book.round(3, 20, 1), 6);
      book.days(1);
      same("none left", book.round(3, 20, 0), 0);
    });
  }

  private static void roundOfEqual() {
    term("of several that with the fewest", () -> {
      same("none is needed", one(0, CHILD, 0, 0).round(3, 20, 0), 0);
      same("in an empty school", new CrossBook().round(3, 20, 0), 0);
      same("of no DAYS", illIn(0, 1).round(3, 0, 0), 0);
      same("one is enough", illIn(5, 5).round(3, 20, 0), 1 << 5);
      same("two are enough", illIn(2, 4).round(3, 20, 0), 1 << 2 | 1 << 4);
      CrossBook book = illIn(0, 0);
      book.sick(0, 1);
      book.knock(0);
      same("a knock there already is enough", book.round(3, 5, 0), 0);
      book.set(STRONG, 1);
      same("a knock would make it less", book.round(3, 5, 0), 0);
    });
    term("then the least as bits.", () -> {
      same("one of 6", illIn(5, 4, 3, 2, 1, 0).round(1, 9, 0), 1);
      same("two of 6", illIn(5, 4, 3, 2, 1, 0).round(2, 9, 0), 3);
      same("three of 6", illIn(5, 4, 3, 2, 1, 0).round(3, 9, 0), 7);
      same("one of 2", illIn(5, 3).round(1, 9, 0), 1 << 3);
      same("the largest and the least of the equal", illIn(2, 4, 5, 5).round(2, 9, 0), 1 << 2 | 1 << 5);
    });
  }

  private static void good() {
    term("FOR GOOD: of a CHILD, the first DAY behind which AWAY is LOST or more, in a TRIAL to DAY 40", () -> {
      CrossBook book = illIn(0);
      same("LOST at first, 11", book.good(0), 10);
      book.set(LOST, 20);
      same("LOST 20, SICK 20", book.good(0), 19);
      book.set(LOST, 21);
      same("LOST 21, SICK 20", book.good(0), NONE);
      book.set(LOST, 2);
      same("LOST 2", book.good(0), 1);
      // the flood is more than 20 days ahead
      CrossBook far = one(0, CHILD, 0, 6);
      far.set(LOST, 2);
      far.event(38, FLOOD);
      same("1 flood", far.good(0), NONE);
      far.event(39, FLOOD);
      same("2 floods in the end", far.good(0), 39);
      far.event(36, FLOOD);
      same("3 floods, not in a row", far.good(0), 39);
      far.event(37, FLOOD);
      same("4 floods in a row", far.good(0), 37);
      CrossBook floods = one(0, CHILD, 0, 9);
      floods.set(LOST, 30);
      for (int day = 5; day < 35; day++) {
        floods.event(day, FLOOD);
      }
      same("30 floods, LOST 30", floods.good(0), 34);
      floods.event(20, 0);
      same("30 floods but one", floods.good(0), NONE);
    });
    term("(DAY TODAY less 1, if it is so now).", () -> {
      CrossBook book = awayFor(11, ILL, 0);
      same("11 away", book.good(0), 10);
      book.sick(0, 9);
      same("11 away, and 9 more to come", book.good(0), 10);
      book.days(2);
      same("13 away", book.good(0), 12);
      book.set(LOST, 14);
      same("1 below LOST", book.good(0), 13);
      CrossBook end = one(38, ILL, 0, 0);
      end.set(LOST, 2);
      end.sick(0, 3);
      end.days(2);
      same("TODAY 40", end.good(0), 39);
      end.set(LOST, 3);
      same("TODAY 40, 1 below LOST", end.good(0), NONE);
    });
  }

  private static void meetAndLeast() {
    term("MEET: two CHILDREN meet n times, if both are there so often in a TRIAL of n DAYS.", () -> {
      CrossBook book = illIn(0, 0, 0);
      book.sick(0, 0);
      book.sick(1, 3);
      same("0 and 1", book.meet(0, 1, 5), 2);
      same("1 and 0", book.meet(1, 0, 5), 2);
      same("0 and 2, who is ill", book.meet(0, 2, 20), 0);
      same("0 and 1, all DAYS", book.meet(0, 1, 20), 17);
      same("no DAYS", book.meet(0, 1, 0), 0);
      book.days(38);
      same("as many as are left", book.meet(0, 1, 20), 2);
      book.days(2);
      same("none left", book.meet(0, 1, 20), 0);
    });
    term("LEAST: the DAY of a TRIAL of n DAYS (1 at least) on which fewest are there", () -> {
      CrossBook book = one(0, KEPT, 2, 0);
      book.child(KEPT, 3, 0, 0);
      book.child(KEPT, 3, 0, 0);
      same("1 DAY", book.least(1), 0);
      same("2 DAYS", book.least(2), 0);
      same("3 DAYS", book.least(3), 2);
      same("4 DAYS", book.least(4), 3);
      same("20 DAYS", book.least(20), 3);
      refusedOutside(1, 20, "least", book::least);
      book.days(38);
      same("the last two", book.least(20), 38);
      book.days(1);
      same("the last", book.least(1), 39);
    });
    term("of several the first.", () -> {
      CrossBook book = one(7, CHILD, 0, 0);
      same("all are there on each DAY", book.least(20), 7);
      same("nobody on any", new CrossBook().least(20), 0);
      book.event(9, FLOOD);
      book.event(8, FLOOD);
      book.child(CHILD, 0, 0, 9);
      same("one is away on two", book.least(20), 8);
      CrossBook full = illIn(0, 0, 0, 0, 0, 0, 0, 0);
      for (int child = 0; child < 8; child++) {
        full.sick(child, 0);
      }
      same("all of 8 on each DAY", full.least(20), 0);
    });
  }

  private static final int PATIENTS = 1 << ILL | 1 << CATCHING;

  private static void fits() {
    term("FITS: which KINDS (a set of bits) could a CHILD be of by THE BOOK as it is written (DAYS that are over)", () -> {
      CrossBook book = one(0, CHILD, 0, 0);
      same("no DAY is over", book.fits(0), 63);
      book.event(0, HERRING);
      book.event(1, PAPER);
      same("EVENTS of DAYS to come", book.fits(0), 63);
      book.days(1);
      same("a CROSS with herring", book.fits(0), 1 << CHILD | 1 << TRUANT | PATIENTS);
      book.days(1);
      same("a CROSS on a paper DAY too", book.fits(0), 1 << CHILD | 1 << ILL);
      book.write(1, 0, false);
      same("as it is written", book.fits(0), 1 << TRUANT | PATIENTS);
      book.mind(0, BAREFOOT, 7);
      same("whatever KIND and A it is of", book.fits(0), 1 << TRUANT | PATIENTS);
      book.write(0, 0, false);
      same("away on both", book.fits(0), 63 & ~(1 << CHILD));
      CrossBook all = one(0, CHILD, 0, 0);
      all.event(39, CIRCUS);
      all.days(40);
      same("a CROSS on DAY 39, all are over", all.fits(0), 1 << CHILD | PATIENTS);
    });
    term("with some A (0 to 9)", () -> {
      for (int kind : new int[] {KEPT, BAREFOOT, TRUANT}) {
        for (int a = 0; a < 10; a++) {
          CrossBook book = one(0, kind, a, 0);
          book.days(40);
          // a truant with A below 5 is there as a child is
          int alike = kind == TRUANT && a < 5 ? 1 << CHILD : 0;
          same("KIND " + kind + " with A " + a, book.fits(0), 1 << kind | PATIENTS | alike);
          for (int day = 1; day <= 4; day++) {
            book.write(day, 0, false);
          }
          same("KIND " + kind + " with A " + a + ", no A is so", book.fits(0), PATIENTS);
        }
      }
    });
  }

  private static void fitsByWhat() {
    term("if on each of these DAYS there is a CROSS just if it wouldn't have been away as one of that KIND", () -> {
      CrossBook book = one(0, CHILD, 0, 0);
      book.event(4, CIRCUS);
      book.event(5, INSPECTOR);
      book.days(10);
      same("on a plain DAY each", book.fits(0), 1 << CHILD | PATIENTS);
      book.write(4, 0, false);
      same("away with the circus", book.fits(0), 1 << TRUANT | PATIENTS);
      book.write(9, 0, false);
      same("on Fridays", book.fits(0), 1 << KEPT | PATIENTS);
      book.write(5, 0, false);
      same("with the inspector", book.fits(0), PATIENTS);
    });
    term("with its FAR", () -> {
      for (int far = 4; far <= 7; far++) {
        CrossBook book = one(0, CHILD, 0, far);
        book.event(1, FLOOD);
        book.days(3);
        same("FAR " + far + ", as it was", book.fits(0) & 1, 1);
        book.write(1, 0, far > 5);
        book.child(CHILD, 0, 0, 9 - far);
        book.would(1);
        same("FAR " + far + ", otherwise", book.fits(0), far > 5 ? 0 : 1 << KEPT | 1 << BAREFOOT | PATIENTS);
      }
    });
    term("without SICK and KNOCK", () -> {
      CrossBook book = one(0, CATCHING, 0, 0);
      book.event(1, PAPER);
      book.knock(0);
      book.sick(0, 20);
      book.days(3);
      same("there by a KNOCK", book.marks(0), 3);
      same("a catching one would have been away", book.fits(0) & PATIENTS, 1 << ILL);
      book.event(1, 0);
      same("ill ones are taken to be well", book.fits(0) & PATIENTS, PATIENTS);
    });
  }

  private static void fitsByBook() {
    term("with AWAY by THE BOOK (CROSSES)", () -> {
      CrossBook book = one(0, CHILD, 0, 0);
      book.set(LOST, 2);
      book.days(10);
      book.event(1, CIRCUS);
      book.event(2, CIRCUS);
      for (int day = 1; day < 9; day++) {
        book.write(day, 0, false);
      }
      book.event(9, INSPECTOR);
      same("lost by two, till the inspector", book.fits(0) & 1 << TRUANT, 1 << TRUANT);
      book.set(LOST, 3);
      same("LOST 3, away for two", book.fits(0) & 1 << TRUANT, 0);
      book.event(3, PAPER);
      same("LOST 3, away for three", book.fits(0) & 1 << TRUANT, 1 << TRUANT);
      book.write(5, 0, true);
      same("a CROSS among them", book.fits(0) & 1 << TRUANT, 0);
      book.event(5, INSPECTOR);
      same("by the inspector, but not lost any more", book.fits(0) & 1 << TRUANT, 0);
      book.event(6, PAPER);
      book.event(7, PAPER);
      book.event(8, CIRCUS);
      same("by the inspector, and for other reasons", book.fits(0) & 1 << TRUANT, 1 << TRUANT);
      // AWAY itself is 0 on a day told to be today
      CrossBook told = new CrossBook();
      told.set(LOST, 2);
      Check.school(told, "child 0 in 0;today 4;day 0 1;day 1 1;");
      same("DAYS told to be over, without CROSSES", told.fits(0) & 1 << TRUANT, 1 << TRUANT);
      Check.school(told, "child 0 in 0;today 2;day 0 1;");
      same("nobody is away ahead of DAY 0: AWAY 1 on DAY 1", told.fits(0) & 1 << TRUANT, 0);
    });
    term("for ill and catching ones a DAY without a CROSS fits always.", () -> {
      CrossBook book = one(0, CHILD, 0, 0);
      book.event(3, INSPECTOR);
      book.days(40);
      same("a CROSS on each", book.fits(0) & PATIENTS, PATIENTS);
      book.write(0, 0, false);
      book.write(3, 0, false);
      book.write(39, 0, false);
      same("none on some, with the inspector too", book.fits(0), PATIENTS);
      for (int day = 0; day < 40; day++) {
        book.write(day, 0, false);
      }
      same("none on any", book.fits(0), PATIENTS);
    });
  }

  private static void drawn() {
    term("DRAWN: z (an int; 1 at first) becomes z * 1103515245 + 12345", () -> {
      CrossBook book = one(0, CHILD, 0, 0);
      same("z at first", book.seed(1), 1);
      book.draw();
      same("z of 1", book.seed(0), 1103527590);
      book.draw();
      same("z of 0", book.seed(MAX), 12345);
      book.draw();
      same("z of MAX wraps", book.seed(MIN), (int) (MAX * 1103515245L + 12345L));
      book.draw();
      same("z of MIN wraps", book.seed(-1), (int) (MIN * 1103515245L + 12345L));
      book.draw();
      same("z of -1", book.seed(3), 12345 - 1103515245);
      book.draw();
      book.draw();
      same("z of two draws", book.seed(0), (int) ((int) (3 * 1103515245L + 12345L) * 1103515245L + 12345L));
    });
    term("of the CHILDREN who WOULD be there today, by numbers, the one at place (z >>> 16) modulo how many they are.", () -> {
      CrossBook book = illIn(0, 0, 0, 0, 0, 0, 0, 0);
      int[] there = {1, 4, 7};
      for (int child : there) {
        book.sick(child, 0);
      }
      for (int v : new int[] {0, 1, 2, 3, 4, 5, 6, -1, -2, -3, -4, MAX, MIN, 98765, -98765}) {
        long z = v * 1103515245L + 12345L & 0xffffffffL;
        book.seed(v);
        same("draw() with z " + v, book.draw(), there[(int) (z / 65536 % 3)]);
      }
      for (int child : there) {
        book.sick(child, 1);
        same("draw() of those left", book.draw(), child == 1 ? secondOrThird(book) : child == 4 ? 7 : NONE);
      }
    });
  }

  /** Who is drawn of 4 and 7 by the z that has just come out. */
  private static int secondOrThird(CrossBook book) {
    int z = book.seed(0);
    book.seed(z);
    return (z >>> 16) % 2 == 0 ? 4 : 7;
  }

  private static void promises19And20() {
    promise(19, "THERE of a TRIAL of n DAYS (0 to 20).", () -> {
      CrossBook book = illIn(0, 0);
      book.sick(1, 0);
      same("there(0)", book.there(0), 0);
      same("there(1)", book.there(1), 1);
      same("there(20)", book.there(20), 20);
      book.days(25);
      same("there(20) with 15 left", book.there(20), 30);
    });
    promise(19, "BAD.", () -> refusedOutside(0, 20, "there", illIn(0)::there));
    promise(20, "ROUND: the set of HOUSES (what 0), THERE with it (1).", () -> {
      CrossBook book = illIn(3, 4, 4);
      same("round(1, 20, 0)", book.round(1, 20, 0), 16);
      same("round(1, 20, 1)", book.round(1, 20, 1), 10);
      same("round(3, 0, 1)", book.round(3, 0, 1), 0);
      CrossBook none = one(0, CHILD, 0, 0);
      same("THERE without a knock", none.round(1, 20, 1), 20);
    });
    promise(20, "BAD.", () -> {
      CrossBook book = illIn(3, 4, 4);
      refusedOutside(1, 3, "k", k -> book.round(k, 5, 0));
      refusedOutside(0, 20, "n", n -> book.round(1, n, 0));
      refusedOutside(0, 1, "what", what -> book.round(1, 5, what));
    });
  }

  private static void promises21To23() {
    promise(21, "FOR GOOD: the DAY.", () -> {
      CrossBook book = illIn(0, 0);
      book.sick(0, 11);
      same("the first", book.good(0), 10);
      same("the last", book.good(1), 10);
      book.days(11);
      same("so now", book.good(0), 10);
    });
    promise(21, "BAD", () -> {
      refusedOutside(0, 1, "good", illIn(0, 0)::good);
      same("in an empty school", new CrossBook().good(0), BAD);
    });
    promise(21, "NONE.", () -> {
      CrossBook book = illIn(0, 0);
      book.sick(0, 10);
      same("10 of 11", book.good(0), NONE);
      book.days(40);
      same("in the end", book.good(1), NONE);
    });
    promise(22, "How often two CHILDREN MEET (n 0 to 20).", () -> {
      CrossBook book = illIn(0, 0);
      same("n 0", book.meet(0, 1, 0), 0);
      same("n 20", book.meet(0, 1, 20), 0);
      book.sick(0, 2);
      book.sick(1, 1);
      same("n 20, well soon", book.meet(1, 0, 20), 18);
      same("n 3, well soon", book.meet(0, 1, 3), 1);
    });
    promise(22, "BAD: also the same.", () -> {
      CrossBook book = illIn(0, 0);
      refusedOutside(0, 1, "a", a -> book.meet(a, 0, 5));
      refusedOutside(0, 1, "b", b -> book.meet(0, b, 5));
      refusedOutside(0, 20, "n", n -> book.meet(0, 1, n));
      same("meet(0, 0, 5)", book.meet(0, 0, 5), BAD);
      same("meet(1, 1, 0)", book.meet(1, 1, 0), BAD);
    });
    promise(23, "LEAST (n 1 to 20).", () -> {
      CrossBook book = one(0, KEPT, 4, 0);
      same("n 1", book.least(1), 0);
      same("n 20", book.least(20), 4);
      CrossBook flood = one(19, CHILD, 0, 6);
      flood.event(38, FLOOD);
      same("the 19th DAY of 19", flood.least(19), 19);
      same("the 20th DAY of 20", flood.least(20), 38);
      flood.event(38, 0);
      flood.event(39, FLOOD);
      same("a 21st", flood.least(20), 19);
    });
    promise(23, "BAD", () -> refusedOutside(1, 20, "least", illIn(0)::least));
    promise(23, "NONE: no DAYS are left.", () -> {
      CrossBook book = illIn(0);
      book.days(39);
      same("one is left", book.least(20), 39);
      book.days(1);
      same("none is left", book.least(20), NONE);
      same("none is left", book.least(1), NONE);
    });
  }

  private static void promises24And25() {
    promise(24, "FITS: a set.", () -> {
      CrossBook book = illIn(0);
      same("all", book.fits(0), 63);
      book.days(4);
      same("those who may be ill", book.fits(0), 36);
      CrossBook none = one(0, CHILD, 0, 6);
      none.event(0, FLOOD);
      none.days(1);
      none.write(0, 0, true);
      same("none", none.fits(0), 0);
    });
    promise(24, "BAD.", () -> {
      refusedOutside(0, 1, "fits", illIn(0, 0)::fits);
      same("in an empty school", new CrossBook().fits(0), BAD);
    });
    promise(25, "z becomes v: what it was.", () -> {
      CrossBook book = one(0, CHILD, 0, 0);
      same("at first", book.seed(MIN), 1);
      same("MIN", book.seed(MAX), MIN);
      same("MAX", book.seed(-1), MAX);
      same("-1", book.seed(0), -1);
      book.draw();
      same("drawn of 0", book.seed(1), 12345);
    });
  }

  private static void promise26() {
    promise(26, "DRAWN: the CHILD.", () -> {
      CrossBook book = one(0, CHILD, 0, 0);
      same("the only one", book.draw(), 0);
      CrossBook two = illIn(0, 0);
      two.sick(1, 0);
      same("the only one there", two.draw(), 1);
      same("the only one there, once more", two.draw(), 1);
      two.days(39);
      two.sick(0, 0);
      two.seed(1);
      same("one of two on the last DAY", two.draw(), 0);
    });
    promise(26, "NONE: nobody would be there", () -> {
      CrossBook book = illIn(0, 0);
      same("all are away", book.draw(), NONE);
      same("z stays", book.seed(1), 1);
      same("in an empty school", new CrossBook().draw(), NONE);
      book.knock(0);
      same("by a knock", book.draw() >= 0 ? 1 : 0, 1);
    });
    promise(26, "STATE: TODAY is 40.", () -> {
      CrossBook book = illIn(0, 0);
      book.sick(1, 0);
      book.days(39);
      book.sick(0, 2);
      same("TODAY 39", book.draw(), 1);
      int z = book.seed(7);
      book.seed(z);
      book.days(1);
      same("TODAY 40", book.draw(), STATE);
      same("z stays", book.seed(7), z);
    });
  }
}
