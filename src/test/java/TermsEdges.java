import java.util.LinkedHashMap;
import java.util.Map;
import java.util.function.Supplier;
import java.util.function.ToIntFunction;

/** The sentences of "Terms": what a refusal is, which of several comes first, sets, quotients. */
final class TermsEdges extends Edge {
  static void run() {
    limit();
    refusals();
    firstNamed();
    named();
    host();
    numbers();
  }

  private static void limit() {
    term("An object is used for at most 512 calls after it has been made; what later calls answer is free.", () -> {
      CrossBook book = new CrossBook();
      for (int call = 1; call <= 512; call++) {
        same("call " + call, book.seed(call + 1), call);
      }
    });
  }

  /** A school of five on day 7, with rows, sheets of all sorts but one, things on shelves, and a trace. */
  private static CrossBook rich() {
    CrossBook book = new CrossBook();
    for (int child = 0; child < 5; child++) {
      book.child(child + 1, child * 2, child, child * 2);
    }
    book.set(TOUCH, 1);
    book.set(STRONG, 9);
    book.event(3, HERRING | PAPER);
    book.event(20, FLOOD);
    book.sick(1, 9);
    book.days(6);
    book.knock(2);
    book.days(1);
    book.write(2, 0, false);
    book.write(3, 2, true);
    book.keep();
    book.sick(2, 3);
    book.prove(3);
    for (int sheet = 0; sheet < 3; sheet++) {
      book.sheet(sheet, sheet, 5);
      book.put(sheet, 2, 77);
    }
    book.shelf(0, 0, 1);
    book.shelf(1, 0, 4);
    book.shelf(2, 1, 1);
    book.seed(99);
    book.act(1, 3, 5);
    return book;
  }

  /** As full as can be, on day 40. */
  private static CrossBook full() {
    CrossBook book = fed();
    for (int child = 5; child < 8; child++) {
      book.child(CHILD, 0, 0, 0);
    }
    for (int left = 238; left > 0; left -= 7) {
      book.feed(0, 7);
    }
    book.days(40);
    return book;
  }

  /** For each call its refusals; school() and act() have their own. */
  private static Map<String, ToIntFunction<CrossBook>> refused() {
    Map<String, ToIntFunction<CrossBook>> all = new LinkedHashMap<>();
    all.put("feed(1, 9)", b -> b.feed(1, 9));
    all.put("child(6, 0, 0, 0)", b -> b.child(6, 0, 0, 0));
    all.put("childOf(0, 7)", b -> b.childOf(0, 7));
    all.put("mind(0, 6, 1)", b -> b.mind(0, 6, 1));
    all.put("mind(0, 2, 10)", b -> b.mind(0, 2, 10));
    all.put("sick(0, 21)", b -> b.sick(0, 21));
    all.put("event(0, 32)", b -> b.event(0, 32));
    all.put("event(40, 1)", b -> b.event(40, 1));
    all.put("dayOf(0, 4)", b -> b.dayOf(0, 4));
    all.put("set(0, 21)", b -> b.set(0, 21));
    all.put("set(4, 2)", b -> b.set(4, 2));
    all.put("would(8)", b -> b.would(8));
    all.put("days(41)", b -> b.days(41));
    all.put("knock(6)", b -> b.knock(6));
    all.put("write(40, 0, true)", b -> b.write(40, 0, true));
    all.put("write(0, 8, true)", b -> b.write(0, 8, true));
    all.put("marks(8)", b -> b.marks(8));
    all.put("wrong(3)", b -> b.wrong(3));
    all.put("longest(8)", b -> b.longest(8));
    all.put("there(21)", b -> b.there(21));
    all.put("round(4, 5, 0)", b -> b.round(4, 5, 0));
    all.put("good(8)", b -> b.good(8));
    all.put("meet(0, 0, 5)", b -> b.meet(0, 0, 5));
    all.put("least(21)", b -> b.least(21));
    all.put("fits(8)", b -> b.fits(8));
    all.put("prove(21)", b -> b.prove(21));
    all.put("row(3, 0)", b -> b.row(3, 0));
    all.put("alterRow(3, 0, 5)", b -> b.alterRow(3, 0, 5));
    all.put("alterRow(0, 3, 5)", b -> b.alterRow(0, 3, 5));
    all.put("many(5)", b -> b.many(5));
    all.put("trace(30)", b -> b.trace(30));
    refusedByHost(all);
    return all;
  }

  private static void refusedByHost(Map<String, ToIntFunction<CrossBook>> all) {
    all.put("events(0, 0, 38, 3)", b -> b.events(0, 0, 38, 3));
    all.put("events(3, 0, 0, 1)", b -> b.events(3, 0, 0, 1));
    all.put("events(1, 0, 0, 3)", b -> b.events(1, 0, 0, 3));
    all.put("events(0, 0, 0, 6)", b -> b.events(0, 0, 0, 6));
    all.put("sheet(0, 4, 3)", b -> b.sheet(0, 4, 3));
    all.put("sheet(0, 1, 41)", b -> b.sheet(0, 1, 41));
    all.put("sheet(0, 1, -1)", b -> b.sheet(0, 1, -1));
    all.put("sheet(4, -1, 0)", b -> b.sheet(4, -1, 0));
    all.put("put(0, 5, 1)", b -> b.put(0, 5, 1));
    all.put("put(3, 0, 1)", b -> b.put(3, 0, 1));
    all.put("item(0, 1, 2)", b -> b.item(0, 1, 2));
    all.put("item(0, 0, 5)", b -> b.item(0, 0, 5));
    all.put("shelf(0, 0, 8)", b -> b.shelf(0, 0, 8));
    all.put("shelf(0, 1, 4)", b -> b.shelf(0, 1, 4));
    all.put("shelf(0, 3, 0)", b -> b.shelf(0, 3, 0));
    all.put("taken(0, 6)", b -> b.taken(0, 6));
    all.put("taken(2, 10)", b -> b.taken(2, 10));
    all.put("taken(3, 0)", b -> b.taken(3, 0));
  }

  private static Map<String, ToIntFunction<CrossBook>> refusedOnceFull() {
    Map<String, ToIntFunction<CrossBook>> all = refused();
    all.put("feed(1, 3)", b -> b.feed(1, 3));
    all.put("child(0, 0, 0, 0)", b -> b.child(0, 0, 0, 0));
    all.put("would(0)", b -> b.would(0));
    all.put("good(5)", b -> b.good(5));
    all.put("least(5)", b -> b.least(5));
    all.put("draw()", b -> b.draw());
    return all;
  }

  private static void refusals() {
    term("Answers below 0, where not told otherwise, are refusals; such a call changes nothing "
        + "(but that THE TAPE is used up by school())", () -> {
      refused().forEach((call, of) -> changesNothing(call, TermsEdges::fed, TermsEdges::fed, of));
      refusedOnceFull().forEach((call, of) -> changesNothing(call + " once full", TermsEdges::full, TermsEdges::full, of));
      changesNothing("again()", CrossBook::new, CrossBook::new, b -> b.again());
      changesNothing("draw()", CrossBook::new, CrossBook::new, b -> b.draw());
      changesNothing("school() with a fault", TermsEdges::fedWithFault, TermsEdges::rich, b -> b.school());
      same("school() with a fault", fedWithFault().school(), -154);
    });
  }

  private static CrossBook fed() {
    CrossBook book = rich();
    book.feed(' ' | ' ' << 8, 2);
    return book;
  }

  private static CrossBook fedWithFault() {
    CrossBook book = rich();
    Check.feed(book, "lost 4;today 9;child 1 in 1;sick 0 2;day 3 4;strong 2;x");
    return book;
  }

  private static void changesNothing(String call, Supplier<CrossBook> made, Supplier<CrossBook> as, ToIntFunction<CrossBook> of) {
    CrossBook book = made.get();
    same(call + " is refused", of.applyAsInt(book) < 0 ? 1 : 0, 1);
    sameText("all, behind " + call, picture(book), picture(as.get()));
    CrossBook again = made.get();
    CrossBook other = as.get();
    of.applyAsInt(again);
    same("again() behind " + call, again.again(), other.again());
    sameText("what is kept, behind " + call, picture(again), picture(other));
  }

  private static void firstNamed() {
    term("of several the first named", () -> {
      CrossBook book = full();
      same("BAD ahead of FULL: feed(0, 9)", book.feed(0, 9), BAD);
      same("BAD ahead of FULL: child(0, 10, 0, 0)", book.child(0, 10, 0, 0), BAD);
      same("BAD ahead of STATE: would(8)", book.would(8), BAD);
      same("BAD ahead of NONE: least(0)", book.least(0), BAD);
      CrossBook empty = new CrossBook();
      empty.days(40);
      same("NONE ahead of STATE: draw()", empty.draw(), NONE);
      same("BAD ahead of -11: events(3, 9, 40, 0)", book.events(3, 9, 40, 0), BAD);
      same("BAD ahead of -13: events(1, 9, 0, 41)", book.events(1, 9, 0, 41), BAD);
      same("BAD ahead of -12: events(0, 9, 39, 2)", book.events(0, 9, 39, 2), BAD);
      same("-11 ahead of -12: events(3, -1, 0, 0)", book.events(3, -1, 0, 0), NOTHING);
      same("-13 ahead of -12: events(1, -1, 0, 0)", book.events(1, -1, 0, 0), OTHER);
      same("BAD ahead of -14: sheet(4, 0, -1)", book.sheet(4, 0, -1), BAD);
      same("BAD ahead of -14: sheet(0, 4, -1)", book.sheet(0, 4, -1), BAD);
      same("BAD ahead of -11: put(4, 0, 0)", book.put(4, 0, 0), BAD);
      same("-11 ahead of -12: put(3, -1, 0)", book.put(3, -1, 0), NOTHING);
      same("BAD ahead of -11: item(3, 4, 0)", book.item(3, 4, 0), BAD);
      same("BAD ahead of -12: item(0, 4, -1)", book.item(0, 4, -1), BAD);
      same("-11 ahead of -12: item(3, 0, -1)", book.item(3, 0, -1), NOTHING);
      same("-13 ahead of -12: item(0, 1, -1)", book.item(0, 1, -1), OTHER);
      same("BAD ahead of -11: taken(3, 6)", book.taken(3, 6), BAD);
      same("BAD ahead of -13: taken(2, 14)", book.taken(2, 14), BAD);
    });
  }

  private static void named() {
    term("BAD (-1) there is no such thing, or a number is not as told", () -> {
      CrossBook book = new CrossBook();
      same("BAD", CrossBook.BAD, -1);
      same("childOf(0, 0) of no child", book.childOf(0, 0), -1);
      book.child(0, 0, 0, 0);
      same("childOf(0, 0)", book.childOf(0, 0), 0);
      same("sick(0, 21)", book.sick(0, 21), -1);
    });
    term("FULL (-2)", () -> {
      same("FULL", CrossBook.FULL, -2);
      same("child() in a full school", full().child(0, 0, 0, 0), -2);
    });
    term("NONE (-3)", () -> {
      same("NONE", CrossBook.NONE, -3);
      same("again() with nothing kept", new CrossBook().again(), -3);
    });
    term("STATE (-4)", () -> {
      same("STATE", CrossBook.STATE, -4);
      same("would() on day 40", full().would(0), -4);
    });
  }

  private static void host() {
    term("and what the host refuses: -11 nothing where something is asked", () -> {
      CrossBook book = new CrossBook();
      same("item() of a missing sheet", book.item(0, 0, 0), -11);
      same("put() to a missing sheet", book.put(0, 0, 0), -11);
      same("events() from a missing sheet", book.events(0, 0, 0, 0), -11);
      same("taken() from a shelf that holds nothing", book.taken(0, 0), -11);
    });
    term("-12 a place outside", () -> {
      CrossBook book = new CrossBook();
      book.sheet(0, 0, 2);
      same("item(0, 0, 2)", book.item(0, 0, 2), -12);
      same("put(0, -1, 0)", book.put(0, -1, 0), -12);
      same("events(0, 1, 0, 2)", book.events(0, 1, 0, 2), -12);
    });
    term("-13 a thing of another sort or kind", () -> {
      CrossBook book = new CrossBook();
      book.sheet(0, 1, 2);
      book.child(ILL, 0, 0, 0);
      book.shelf(0, 1, 0);
      book.shelf(1, 0, 0);
      same("item() of another sort", book.item(0, 2, 0), -13);
      same("events() from another sort", book.events(0, 0, 0, 1), -13);
      same("taken() of another sort", book.taken(0, 10), -13);
      same("taken() of another kind", book.taken(1, 5), -13);
    });
    term("-14 a size below 0", () -> {
      CrossBook book = new CrossBook();
      same("sheet(0, 3, -1)", book.sheet(0, 3, -1), -14);
      same("sheet(0, 3, MIN)", book.sheet(0, 3, MIN), -14);
      same("sheet(0, 3, 0)", book.sheet(0, 3, 0), 1);
    });
    term("-15 parted by 0.", () -> {
      CrossBook book = one(0, CHILD, 0, 0);
      book.shelf(0, 0, 0);
      same("act(0, 2, 8), A and number the same", book.act(0, 2, 8), -15);
      book.mind(0, CHILD, 1);
      same("act(0, 2, 8)", book.act(0, 2, 8), 8);
    });
  }

  private static void numbers() {
    term("Sets are told by bits.", () -> {
      CrossBook book = new CrossBook();
      for (int child = 0; child < 8; child++) {
        book.child(child == 0 || child == 2 || child == 7 ? CHILD : KEPT, 0, 0, 0);
      }
      book.sick(0, 2);
      book.sick(7, 2);
      book.prove(1);
      same("who are there in row 0", book.row(0, 1), 1 << 0 | 1 << 2 | 1 << 7);
      same("who are sick in row 0", book.row(0, 2), 1 << 0 | 1 << 7);
      book.days(1);
      same("crosses", book.dayOf(0, 2), 133);
      same("who were there truly", book.dayOf(0, 3), 133);
      same("kinds", book.fits(0), 63);
      same("houses", illIn(0, 5, 5, 3, 3, 3).round(3, 1, 0), 1 << 0 | 1 << 3 | 1 << 5);
    });
    term("Quotients are cut towards 0.", () -> {
      CrossBook book = new CrossBook();
      for (int child = 0; child < 4; child++) {
        book.child(CHILD, 1, 0, 0);
      }
      book.mind(0, CHILD, 2);
      book.shelf(0, 0, 0);
      book.shelf(3, 0, 3);
      same("7 by 2", book.act(0, 2, 7), 3);
      same("-7 by 2", book.act(0, 2, -7), -3);
      same("7 by -2", book.act(3, 2, 7), -3);
      same("-7 by -2", book.act(3, 2, -7), 3);
      same("1 by -2", book.act(3, 2, 1), 0);
    });
  }
}
