import java.io.IOException;
import java.nio.file.Files;
import java.nio.file.Path;
import java.util.ArrayList;
import java.util.List;
import java.util.Map;
import java.util.TreeMap;
import java.util.function.IntUnaryOperator;
import java.util.regex.Matcher;
import java.util.regex.Pattern;

/**
 * A test of one sentence of the document. Each names its sentence word by word and the part where it stands; in the
 * end no sentence of the document may be left over without a test of its own.
 */
abstract class Edge {
  static final int MIN = Integer.MIN_VALUE, MAX = Integer.MAX_VALUE;
  static final int BAD = -1, FULL = -2, NONE = -3, STATE = -4, NOT_FOUND = -9;
  static final int NOTHING = -11, OUTSIDE = -12, OTHER = -13, BELOW = -14, PARTED = -15;
  static final int CHILD = 0, KEPT = 1, ILL = 2, TRUANT = 3, BAREFOOT = 4, CATCHING = 5;
  static final int PAPER = 1, HERRING = 2, CIRCUS = 4, INSPECTOR = 8, FLOOD = 16;
  static final int STRONG = 0, LOST = 1, TOUCH = 2, SPELL = 3;

  private static final Check CHECK = new Check("Edge");
  private static final int TERMS = 0, PROMISES = 41;
  /** No call of the face tells a fraction. */
  private static final String UNASKED =
      "A part of a fraction: 0 above the line, 1 below it, without a common divisor, below above 0 (0 is 0 by 1).";
  private static final Map<Integer, Part> PARTS = new TreeMap<>();
  private static String current = "";

  /** The text of a part of the document, and which of its signs stand in a sentence that has a test. */
  private static final class Part {
    final String text;
    final boolean[] isTested;

    Part(String text) {
      this.text = text.replaceAll("\\s+", " ").trim();
      isTested = new boolean[this.text.length()];
    }

    /** Takes the first place of the sentence that isn't taken yet: promises say "BAD." and the like more than once. */
    boolean take(String sentence) {
      int from = text.indexOf(sentence);
      while (from >= 0 && isTested[from]) {
        from = text.indexOf(sentence, from + 1);
      }
      for (int i = 0; from >= 0 && i < sentence.length(); i++) {
        isTested[from + i] = true;
      }
      return from >= 0;
    }

    String leftOver() {
      StringBuilder left = new StringBuilder();
      for (int i = 0; i < text.length(); i++) {
        left.append(isTested[i] ? '|' : text.charAt(i));
      }
      return left.toString().replaceAll("[^A-Za-z0-9]*\\|[^A-Za-z0-9]*", "|").replaceAll("\\|+", " .. ").replaceAll("^[^A-Za-z0-9]*$", "");
    }
  }

  static void open() throws IOException {
    String doc = Files.readString(Path.of("../shared/DOC.md"));
    Matcher limit = Pattern.compile("An object is used for at most .*").matcher(doc);
    String first = limit.find() ? limit.group() : "";
    String terms = doc.substring(doc.indexOf("## Terms") + "## Terms".length(), doc.indexOf("## Promise 1:"));
    PARTS.put(TERMS, new Part(first + " " + terms.replaceAll("(?m)^(```.*|Ahead of the calls .*)$", " ").replace("======== ", "")));
    Matcher promise = Pattern.compile("(?s)## Promise (\\d+):[^\\n]*\\n+`[^`]*`: (.*?)(?=\\n## )").matcher(doc);
    while (promise.find()) {
      PARTS.put(Integer.parseInt(promise.group(1)), new Part(promise.group(2)));
    }
    CHECK.same("promises of the document", PARTS.size() - 1, PROMISES);
    PARTS.get(TERMS).take(UNASKED);
  }

  static void close() {
    for (Map.Entry<Integer, Part> part : PARTS.entrySet()) {
      String left = part.getValue().leftOver();
      CHECK.yes("promise " + part.getKey() + " (0: the terms) has sentences without a test: " + left, left.isEmpty());
    }
  }

  /** A test of a sentence of the terms, or of the document's sections 1 to 3. */
  static void term(String sentence, Runnable test) {
    edge(TERMS, sentence, test);
  }

  static void promise(int number, String sentence, Runnable test) {
    edge(number, sentence, test);
  }

  private static void edge(int number, String sentence, Runnable test) {
    current = (number == TERMS ? "terms" : "promise " + number) + " '" + sentence + "': ";
    Part part = PARTS.get(number);
    CHECK.yes(current + "the document doesn't say so, or has a test of it", part != null && part.take(sentence));
    int before = Check.looks();
    test.run();
    CHECK.yes(current + "nothing is looked at", Check.looks() > before);
  }

  static void same(String call, long got, long due) {
    CHECK.same(current + call, got, due);
  }

  static void sameText(String call, String got, String due) {
    CHECK.yes(current + call + " is " + got + ", due is " + due, got.equals(due));
  }

  /** Each of the numbers beside a range, and the least and the largest of all, is refused. */
  static void refusedOutside(int low, int high, String call, IntUnaryOperator of) {
    for (int number : new int[] {low - 1, high + 1, MIN, MAX}) {
      same(call + " with " + number, of.applyAsInt(number), BAD);
    }
  }

  // schools to look at

  /** A school on a day, of one child. */
  static CrossBook one(int day, int kind, int a, int far) {
    CrossBook book = new CrossBook();
    book.days(day);
    book.child(kind, a, 0, far);
    return book;
  }

  static int wouldOn(int day, int kind, int a, int far, int events) {
    CrossBook book = one(day, kind, a, far);
    book.event(day, events);
    return book.would(0);
  }

  /** Makes one away for so many days, and of a kind then: who is ill comes no earlier. */
  static CrossBook awayFor(int days, int kind, int a) {
    CrossBook book = new CrossBook();
    book.child(ILL, a, 0, 0);
    book.sick(0, days);
    book.days(days);
    book.mind(0, kind, a);
    return book;
  }

  /** An ill one in each of the houses, sick for 20 days. */
  static CrossBook illIn(int... houses) {
    CrossBook book = new CrossBook();
    for (int house : houses) {
      book.sick(book.child(ILL, 0, house, 0), 20);
    }
    return book;
  }

  /** All that can be seen of a school and of what stands beside it, by calls that change nothing in the end. */
  static String picture(CrossBook book) {
    List<Integer> seen = new ArrayList<>();
    seen.add(book.today());
    for (int what = 0; what < 5; what++) {
      seen.add(book.many(what));
    }
    int children = book.many(0);
    for (int child = 0; child < children; child++) {
      for (int what = 0; what < 7; what++) {
        seen.add(book.childOf(child, what));
      }
    }
    for (int day = 0; day < 40; day++) {
      seen.add(book.dayOf(day, 0));
      seen.add(book.dayOf(day, 2));
      seen.add(book.dayOf(day, 3));
    }
    for (int law = 0; law < 4; law++) {
      int was = book.set(law, 2);
      seen.add(was);
      book.set(law, was);
    }
    int z = book.seed(0);
    seen.add(z);
    book.seed(z);
    return seen + pictureBeside(book).toString();
  }

  private static List<Integer> pictureBeside(CrossBook book) {
    List<Integer> seen = new ArrayList<>();
    int rows = book.many(2);
    for (int i = 0; i < rows; i++) {
      for (int what = 0; what < 3; what++) {
        seen.add(book.row(i, what));
      }
    }
    int bodies = book.many(4);
    for (int i = 0; i < bodies; i++) {
      seen.add(book.trace(i));
    }
    for (int sheet = 0; sheet < 4; sheet++) {
      for (int sort = 0; sort < 4; sort++) {
        seen.add(book.item(sheet, sort, 0));
        seen.add(book.item(sheet, sort, 2));
      }
    }
    for (int shelf = 0; shelf < 4; shelf++) {
      for (int as = 0; as < 14; as++) {
        seen.add(book.taken(shelf, as));
      }
    }
    return seen;
  }
}
