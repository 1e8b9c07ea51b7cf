import java.io.File;
import java.io.IOException;
import java.net.URL;
import java.net.URLClassLoader;
import java.nio.file.Files;
import java.nio.file.Path;
import java.util.ArrayList;
import java.util.List;
import java.util.regex.Matcher;
import java.util.regex.Pattern;
import javax.tools.ToolProvider;

/** README.md names every call of the face, and its examples answer what stands behind their lines. */
final class ReadmeTest {
  private static final Check CHECK = new Check("ReadmeTest");
  private static final String EXAMPLES = "ReadmeExamples";
  /** A call, the answer behind it, and perhaps a name for that answer ahead of it. */
  private static final Pattern ANSWERED = Pattern.compile("(int (\\w+) = )?([^=]*);\\s+// (-?\\d+): .*");

  static void run() throws Exception {
    String readme = Files.readString(Path.of("README.md"));
    namesEveryCall(readme);
    examples(readme);
  }

  /** Promises are told as `int name(type a, type b)`; the README's table as `name(a, b)`. */
  private static void namesEveryCall(String readme) throws IOException {
    String doc = Files.readString(Path.of("../shared/DOC.md"));
    Matcher m = Pattern.compile("(?m)^`int (\\w+)\\((.*)\\)`: ").matcher(doc);
    int calls = 0;
    while (m.find()) {
      calls++;
      String call = m.group(1) + "(" + m.group(2).replaceAll("\\w+ (\\w+)", "$1") + ")";
      CHECK.yes("the README doesn't tell " + call, readme.contains("\n| `" + call + "` | "));
    }
    CHECK.same("calls of the document", calls, 40);
  }

  private static void examples(String readme) throws Exception {
    StringBuilder methods = new StringBuilder();
    int blocks = 0;
    Matcher m = Pattern.compile("(?s)```java\\n(.*?)```").matcher(readme);
    while (m.find()) {
      if (m.group(1).startsWith("static ")) {
        methods.append(m.group(1));
      } else {
        methods.append("static void block").append(blocks++).append("(java.util.List<Object[]> seen) {\n");
        methods.append(looked(m.group(1))).append("}\n");
      }
    }
    CHECK.yes("there are examples", blocks > 0);
    List<Object[]> seen = new ArrayList<>();
    runBlocks(methods.toString(), blocks, seen);
    for (Object[] one : seen) {
      CHECK.same("README: " + one[0], (Integer) one[1], (Integer) one[2]);
    }
    CHECK.yes("examples have answers", seen.size() > 30);
  }

  /** The lines of an example, made so that each call with an answer behind it is noted with that answer. */
  private static String looked(String block) {
    StringBuilder lines = new StringBuilder();
    for (String line : block.split("\n")) {
      Matcher m = ANSWERED.matcher(line);
      if (!m.matches()) {
        CHECK.yes("a line without an answer: " + line, line.endsWith("= new CrossBook();"));
        lines.append(line).append('\n');
        continue;
      }
      String name = m.group(2) == null ? "answer" + lines.length() : m.group(2);
      lines.append("int ").append(name).append(" = ").append(m.group(3)).append(";\n");
      lines.append("seen.add(new Object[] {\"").append(m.group(3).replace("\"", "'")).append("\", ");
      lines.append(name).append(", ").append(m.group(4)).append("});\n");
    }
    return lines.toString();
  }

  private static void runBlocks(String methods, int blocks, List<Object[]> seen) throws Exception {
    Path dir = Files.createTempDirectory("readme");
    Path source = dir.resolve(EXAMPLES + ".java");
    Path made = dir.resolve(EXAMPLES + ".class");
    try {
      Files.writeString(source, "final class " + EXAMPLES + " {\n" + methods + "}\n");
      String classes = new File(CrossBook.class.getProtectionDomain().getCodeSource().getLocation().toURI()).getPath();
      int code = ToolProvider.getSystemJavaCompiler().run(null, null, null, "-proc:none", "-cp", classes, "-d", dir.toString(), source.toString());
      CHECK.same("compiling the README's examples", code, 0);
      if (code != 0) {
        return;
      }
      try (URLClassLoader loader = new URLClassLoader(new URL[] {dir.toUri().toURL()}, CrossBook.class.getClassLoader())) {
        Class<?> examples = loader.loadClass(EXAMPLES);
        for (int i = 0; i < blocks; i++) {
          var block = examples.getDeclaredMethod("block" + i, List.class);
          block.setAccessible(true);
          block.invoke(null, seen);
        }
      }
    } finally {
      Files.deleteIfExists(source);
      Files.deleteIfExists(made);
      Files.deleteIfExists(dir);
    }
  }
}
