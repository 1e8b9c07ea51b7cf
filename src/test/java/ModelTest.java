import java.util.Random;

/** Long runs of calls by lot, each answer compared with the model's. */
final class ModelTest {
  private static final Check CHECK = new Check("ModelTest");
  private static final int RUNS = 1500, CALLS = 512;
  private static final int[] ODD = {-1, -2, Integer.MIN_VALUE, Integer.MAX_VALUE, 41, 100, -100};
  private static final String[] WORDS = {
    "child", "kept", "ill", "truant", "barefoot", "catching", "in", "far", "day", "sick", "today", "strong", "lost",
    ";", "1", "2", "0", "9", "39", "x", "007", ":"
  };

  private final Random lot;
  private CrossBook book;
  private Model model;

  private ModelTest(int seed) {
    lot = new Random(seed);
  }

  static void run() {
    for (int seed = 0; seed < RUNS; seed++) {
      new ModelTest(seed).oneRun(seed);
    }
  }

  private void oneRun(int seed) {
    book = new CrossBook();
    model = new Model();
    int most = seed % 3 == 0 ? 60 : CALLS;
    for (int call = 0; call < most; call++) {
      int which = lot.nextInt(41);
      if (call < 9 && seed % 2 == 0) {
        which = 2;
      }
      String bad = oneCall(which);
      if (bad != null) {
        CHECK.yes("run " + seed + ", call " + call + ": " + bad, false);
        return;
      }
    }
    CHECK.yes("run " + seed, true);
  }

  /** A number from 0 to high, now and then one that isn't. */
  private int upTo(int high) {
    int dice = lot.nextInt(60);
    if (dice == 0) {
      return ODD[lot.nextInt(ODD.length)];
    }
    return dice == 1 ? high + 1 : lot.nextInt(high + 1);
  }

  private String same(String call, long got, long due) {
    return got == due ? null : call + " answered " + got + ", due is " + due;
  }

  private String oneCall(int which) {
    return which < 20 ? oneOfFirst(which) : oneOfLast(which);
  }

  private String oneOfFirst(int which) {
    int a = upTo(7);
    int b = upTo(39);
    switch (which) {
      case 0: {
        long eight = lot.nextLong();
        int n = 1 + upTo(7);
        return same("feed", book.feed(eight, n), model.feed(eight, n));
      }
      case 1:
        return tell();
      case 2: {
        int kind = upTo(5);
        int itsA = upTo(9);
        int house = upTo(2);
        int far = upTo(9);
        return same("child", book.child(kind, itsA, house, far), model.child(kind, itsA, house, far));
      }
      case 3: {
        int what = upTo(6);
        return same("childOf " + a + " " + what, book.childOf(a, what), model.childOf(a, what));
      }
      case 4: {
        int kind = upTo(5);
        int itsA = upTo(9);
        return same("mind", book.mind(a, kind, itsA), model.mind(a, kind, itsA));
      }
      case 5: {
        int days = upTo(20);
        return same("sick", book.sick(a, days), model.sick(a, days));
      }
      case 6: {
        int events = upTo(31);
        return same("event", book.event(b, events), model.event(b, events));
      }
      case 7: {
        int what = upTo(3);
        return same("dayOf " + b + " " + what, book.dayOf(b, what), model.dayOf(b, what));
      }
      case 8: {
        int law = upTo(3);
        int v = lot.nextInt(32);
        return same("set " + law + " " + v, book.set(law, v), model.set(law, v));
      }
      case 9:
        return same("today", book.today(), model.now.today);
      case 10:
        return same("would " + a, book.would(a), model.would(a));
      case 11: {
        int n = lot.nextInt(12) == 0 ? upTo(40) : upTo(3);
        return same("days " + n, book.days(n), model.days(n));
      }
      case 12: {
        int house = upTo(5);
        return same("knock", book.knock(house), model.knock(house));
      }
      case 13: {
        boolean is = lot.nextBoolean();
        return same("write", book.write(b, a, is), model.write(b, a, is));
      }
      case 14:
        return same("marks", book.marks(a), model.marks(a));
      case 15: {
        int what = upTo(2);
        return same("wrong " + what, book.wrong(what), model.wrong(what));
      }
      case 16:
        return same("longest", book.longest(a), model.longest(a));
      case 17: {
        int n = upTo(20);
        return same("there " + n, book.there(n), model.there(n));
      }
      case 18: {
        if (lot.nextInt(4) != 0) {
          return null;
        }
        int k = 1 + upTo(2);
        int n = upTo(20);
        int what = upTo(1);
        return same("round " + k + " " + n + " " + what, book.round(k, n, what), model.round(k, n, what));
      }
      default:
        return same("good " + a, book.good(a), model.good(a));
    }
  }

  private String oneOfLast(int which) {
    int a = upTo(7);
    int sheet = upTo(3);
    switch (which) {
      case 20: {
        int b = upTo(7);
        int n = upTo(20);
        return same("meet", book.meet(a, b, n), model.meet(a, b, n));
      }
      case 21: {
        int n = upTo(20);
        return same("least " + n, book.least(n), model.least(n));
      }
      case 22:
        return same("fits " + a, book.fits(a), model.fits(a));
      case 23: {
        int v = lot.nextInt();
        return same("seed", book.seed(v), model.seed(v));
      }
      case 24:
        return same("draw", book.draw(), model.draw());
      case 25: {
        int n = upTo(20);
        return same("prove " + n, book.prove(n), model.prove(n));
      }
      case 26: {
        int i = upTo(19);
        int what = upTo(2);
        return same("row " + i + " " + what, book.row(i, what), model.row(i, what));
      }
      case 27: {
        int i = upTo(19);
        int what = upTo(2);
        int v = upTo(40);
        return same("alterRow", book.alterRow(i, what, v), model.alterRow(i, what, v));
      }
      case 28:
        return same("judge", book.judge(), model.judge());
      case 29: {
        int i = upTo(10);
        int day = upTo(39);
        int n = upTo(20);
        return same("events", book.events(sheet, i, day, n), model.events(sheet, i, day, n));
      }
      case 30: {
        int sort = upTo(4) - 1;
        int n = upTo(40);
        return same("sheet", book.sheet(sheet, sort, n), model.sheet(sheet, sort, n));
      }
      case 31: {
        int i = upTo(39);
        int v = lot.nextInt();
        return same("put", book.put(sheet, i, v), model.put(sheet, i, v));
      }
      case 32: {
        int sort = upTo(3);
        int i = upTo(39);
        return same("item", book.item(sheet, sort, i), model.item(sheet, sort, i));
      }
      case 33: {
        int what = upTo(2);
        int n = upTo(7);
        return same("shelf", book.shelf(sheet, what, n), model.shelf(sheet, what, n));
      }
      case 34: {
        int as = upTo(13);
        return same("taken " + sheet + " " + as, book.taken(sheet, as), model.taken(sheet, as));
      }
      case 35: {
        int act = upTo(3);
        int x = lot.nextBoolean() ? lot.nextInt() : upTo(20);
        return same("act " + sheet + " " + act + " " + x, book.act(sheet, act, x), model.act(sheet, act, x));
      }
      case 36: {
        int i = upTo(12);
        return same("trace " + i, book.trace(i), model.trace(i));
      }
      case 37: {
        int what = upTo(4);
        return same("many " + what, book.many(what), model.many(what));
      }
      case 38:
        return lot.nextInt(3) != 0 ? null : same("keep", book.keep(), model.keep());
      case 39:
        return same("again", book.again(), model.again());
      default:
        return same("many 1", book.many(1), model.many(1));
    }
  }

  /** A text, mostly of right items, now and then with a word changed or cut off. */
  private String tell() {
    if (lot.nextInt(3) != 0) {
      return null;
    }
    if (book.many(3) > 0) {
      int told = book.school();
      return same("school of lots", told, model.school());
    }
    StringBuilder text = new StringBuilder();
    int items = lot.nextInt(12);
    for (int i = 0; i < items; i++) {
      text.append(item());
    }
    if (lot.nextInt(3) == 0 && text.length() > 0) {
      int at = lot.nextInt(text.length());
      if (lot.nextBoolean()) {
        text.setLength(at);
      }
      text.insert(Math.min(at, text.length()), WORDS[lot.nextInt(WORDS.length)]);
    }
    String whole = text.length() > 240 ? text.substring(0, 240) : text.toString();
    for (int from = 0; from < whole.length(); from += 8) {
      String part = whole.substring(from, Math.min(whole.length(), from + 8));
      long eight = lot.nextLong() << 63;
      for (int i = part.length() - 1; i >= 0; i--) {
        eight = eight << 8 | part.charAt(i);
      }
      String bad = same("feed", book.feed(eight, part.length()), model.feed(eight, part.length()));
      if (bad != null) {
        return bad;
      }
    }
    return same("school '" + whole + "'", book.school(), model.school());
  }

  private String item() {
    String gap = lot.nextInt(5) == 0 ? "  " : " ";
    String end = lot.nextInt(5) == 0 ? " ; " : ";";
    switch (lot.nextInt(9)) {
      case 0:
        return "day" + gap + upTo(39) + gap + upTo(31) + end;
      case 1:
        return "sick" + gap + lot.nextInt(3) + gap + upTo(20) + end;
      case 2:
        return "today" + gap + upTo(40) + end;
      case 3:
        return "strong" + gap + (1 + upTo(19)) + end;
      case 4:
        return "lost" + gap + (2 + upTo(28)) + end;
      default:
        String far = lot.nextBoolean() ? gap + "far" + gap + upTo(9) : "";
        return WORDS[lot.nextInt(6)] + gap + upTo(9) + gap + "in" + gap + upTo(5) + far + end;
    }
  }
}
