import java.io.IOException;
import java.nio.file.Files;
import java.nio.file.Path;
import java.util.ArrayList;
import java.util.List;
import java.util.regex.Matcher;
import java.util.regex.Pattern;

/** "The public face": its lines as they stand in the document, in its order, and the headings ahead of the calls. */
final class FaceTest {
  private static final Check CHECK = new Check("FaceTest");
  private static final int CALLS = 40, HEADINGS = 6;

  static void run() throws IOException {
    String doc = Files.readString(Path.of("../shared/DOC.md"));
    String source = Files.readString(Path.of("src/main/java/CrossBook.java"));
    inOrder(face(doc), source);
    headings(doc, source);
  }

  /** The lines between the braces of the face. */
  static List<String> face(String doc) {
    String block = doc.substring(doc.indexOf("public final class CrossBook {"));
    List<String> lines = new ArrayList<>();
    for (String line : block.substring(block.indexOf('\n'), block.indexOf("\n}")).trim().split("\n")) {
      lines.add(line.trim());
    }
    CHECK.same("lines of the face", lines.size(), CALLS + 2);
    return lines;
  }

  private static void inOrder(List<String> face, String source) {
    int from = source.indexOf("public final class CrossBook {");
    CHECK.yes("the class is not as the face says", from >= 0);
    for (String line : face) {
      String due = "\n  " + (line.endsWith(");") ? line.replace(";", " {") : line) + "\n";
      int at = source.indexOf(due, Math.max(0, from));
      CHECK.yes("'" + line + "' doesn't stand behind the line ahead of it", at >= 0);
      from = Math.max(from, at);
    }
  }

  private static void headings(String doc, String source) {
    Matcher m = Pattern.compile("Ahead of the calls (.*) the interface says: (---- .*)\\.").matcher(doc);
    int found = 0;
    int calls = 0;
    while (m.find()) {
      found++;
      String heading = "\n  // " + m.group(2) + "\n";
      int from = source.indexOf(heading);
      CHECK.yes("no heading '" + m.group(2) + "'", from >= 0);
      String under = source.substring(Math.max(0, from) + heading.length());
      int end = under.indexOf("\n  // ---- ");
      List<String> due = List.of(m.group(1).replace("`", "").split(", "));
      List<String> got = publicCalls(end < 0 ? under : under.substring(0, end));
      CHECK.yes("under '" + m.group(2) + "' stand " + got + ", due are " + due, got.equals(due));
      calls += due.size();
    }
    CHECK.same("headings", found, HEADINGS);
    CHECK.same("calls under headings", calls, CALLS);
  }

  private static List<String> publicCalls(String text) {
    List<String> names = new ArrayList<>();
    Matcher m = Pattern.compile("(?m)^  public int (\\w+)\\(").matcher(text);
    while (m.find()) {
      names.add(m.group(1));
    }
    return names;
  }
}
