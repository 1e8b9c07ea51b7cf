import com.sun.source.tree.BinaryTree;
import com.sun.source.tree.ClassTree;
import com.sun.source.tree.CompilationUnitTree;
import com.sun.source.tree.MethodInvocationTree;
import com.sun.source.tree.MethodTree;
import com.sun.source.tree.NewArrayTree;
import com.sun.source.tree.NewClassTree;
import com.sun.source.tree.Tree;
import com.sun.source.tree.VariableTree;
import com.sun.source.util.JavacTask;
import com.sun.source.util.SourcePositions;
import com.sun.source.util.TreePath;
import com.sun.source.util.TreePathScanner;
import com.sun.source.util.Trees;
import java.io.File;
import java.lang.reflect.Constructor;
import java.lang.reflect.Field;
import java.lang.reflect.Method;
import java.lang.reflect.Modifier;
import java.nio.file.Files;
import java.nio.file.Path;
import java.util.ArrayList;
import java.util.EnumSet;
import java.util.HashSet;
import java.util.LinkedHashMap;
import java.util.List;
import java.util.Map;
import java.util.Set;
import java.util.TreeSet;
import java.util.regex.Matcher;
import java.util.regex.Pattern;
import javax.lang.model.element.Element;
import javax.lang.model.type.TypeKind;
import javax.tools.JavaCompiler;
import javax.tools.StandardJavaFileManager;
import javax.tools.ToolProvider;

/** The rules of LANGUAGE.md that can be read off the source, and the face that DOC.md tells. */
final class LanguageTest {
  private static final Check CHECK = new Check("LanguageTest");
  private static final Path SOURCE = Path.of("src/main/java/CrossBook.java");
  private static final Path DOC = Path.of("../shared/DOC.md");
  private static final Set<Tree.Kind> FORBIDDEN = EnumSet.of(
      Tree.Kind.LAMBDA_EXPRESSION, Tree.Kind.MEMBER_REFERENCE, Tree.Kind.THROW, Tree.Kind.TRY, Tree.Kind.CATCH,
      Tree.Kind.SYNCHRONIZED, Tree.Kind.ASSERT, Tree.Kind.IMPORT, Tree.Kind.PACKAGE, Tree.Kind.BINDING_PATTERN);
  private static final Set<String> LIBRARY = Set.of(
      "String.length", "String.charAt", "Integer.bitCount", "Math.max", "Math.min", "System.arraycopy", "Object.<init>");

  static void run() throws Exception {
    face();
    signs();
    new LanguageTest().source();
  }

  private static void face() throws Exception {
    Set<String> due = new TreeSet<>();
    Matcher m = Pattern.compile("public int (\\w+)\\(([^)]*)\\);").matcher(Files.readString(DOC));
    while (m.find()) {
      due.add(m.group(1) + "(" + m.group(2).replaceAll(" \\w+(,|$)", "$1") + ")");
    }
    Set<String> got = new TreeSet<>();
    Set<String> hidden = new TreeSet<>();
    for (Method method : CrossBook.class.getDeclaredMethods()) {
      List<String> types = new ArrayList<>();
      for (Class<?> type : method.getParameterTypes()) {
        types.add(type.getName());
      }
      if (Modifier.isPublic(method.getModifiers())) {
        got.add(method.getName() + "(" + String.join(", ", types) + ")");
        CHECK.yes(method.getName() + " answers an int, by an object", method.getReturnType() == int.class
            && !Modifier.isStatic(method.getModifiers()));
      } else if (!method.isSynthetic()) {
        CHECK.yes(method.getName() + " is private", Modifier.isPrivate(method.getModifiers()));
        hidden.add(method.getName());
      }
    }
    CHECK.yes("the face is " + got + ", due is " + due, got.equals(due) && due.size() == 40);
    for (Class<?> inside : CrossBook.class.getDeclaredClasses()) {
      CHECK.yes(inside + " is static", Modifier.isStatic(inside.getModifiers()));
      CHECK.yes(inside + " isn't public", (inside.getModifiers() & (Modifier.PUBLIC | Modifier.PROTECTED)) == 0);
      for (Method method : inside.getDeclaredMethods()) {
        hidden.add(method.getName());
      }
    }
    for (String name : hidden) {
      for (String known : due) {
        CHECK.yes(name + " is the name of a public method", !known.startsWith(name + "("));
      }
    }
    for (Field field : CrossBook.class.getDeclaredFields()) {
      boolean isOfFace = Set.of("BAD", "FULL", "NONE", "STATE").contains(field.getName());
      CHECK.yes(field.getName() + " is private", isOfFace ? Modifier.isPublic(field.getModifiers()) : Modifier.isPrivate(field.getModifiers()));
    }
    Constructor<?>[] constructors = CrossBook.class.getDeclaredConstructors();
    CHECK.yes("one public constructor", constructors.length == 1 && Modifier.isPublic(constructors[0].getModifiers())
        && constructors[0].getParameterCount() == 0);
    CHECK.yes("the class is public and final", Modifier.isPublic(CrossBook.class.getModifiers()) && Modifier.isFinal(CrossBook.class.getModifiers()));
  }

  private static void signs() throws Exception {
    for (byte sign : Files.readAllBytes(SOURCE)) {
      if (sign < 1) {
        CHECK.yes("the source has the sign " + (sign & 255), false);
      }
    }
  }

  private Trees trees;
  private SourcePositions places;
  private CompilationUnitTree unit;
  private final Map<Element, Set<Element>> calls = new LinkedHashMap<>();
  private int classes = 0;

  private void source() throws Exception {
    JavaCompiler compiler = ToolProvider.getSystemJavaCompiler();
    try (StandardJavaFileManager files = compiler.getStandardFileManager(null, null, null)) {
      JavacTask task = (JavacTask) compiler.getTask(null, files, null, List.of("-proc:none"), null,
          files.getJavaFileObjects(new File(SOURCE.toString())));
      unit = task.parse().iterator().next();
      task.analyze();
      trees = Trees.instance(task);
      places = trees.getSourcePositions();
      CHECK.same("classes of the file", unit.getTypeDecls().size(), 1);
      new Rules().scan(unit, null);
    }
    CHECK.yes("some twelve classes, not " + classes, classes <= 12);
    recursion();
    depth();
  }

  private long lines(Tree tree) {
    long from = unit.getLineMap().getLineNumber(places.getStartPosition(unit, tree));
    return unit.getLineMap().getLineNumber(places.getEndPosition(unit, tree)) - from + 1;
  }

  private final class Rules extends TreePathScanner<Void, Void> {
    private Element method = null;
    private boolean isMaking = false;

    @Override
    public Void scan(Tree tree, Void nothing) {
      if (tree != null && FORBIDDEN.contains(tree.getKind())) {
        CHECK.yes("the source has " + tree.getKind() + ": " + tree, false);
      }
      return super.scan(tree, nothing);
    }

    @Override
    public Void visitClass(ClassTree tree, Void nothing) {
      classes++;
      CHECK.yes("a class stands in a method: " + tree.getSimpleName(), method == null && !tree.getSimpleName().isEmpty());
      int fields = 0;
      for (Tree member : tree.getMembers()) {
        if (member instanceof VariableTree field) {
          boolean isStatic = field.getModifiers().getFlags().contains(javax.lang.model.element.Modifier.STATIC);
          boolean isFinal = field.getModifiers().getFlags().contains(javax.lang.model.element.Modifier.FINAL);
          CHECK.yes("a static field isn't final: " + field, !isStatic || isFinal);
          CHECK.yes("a static field of another type: " + field,
              !isStatic || Set.of("int", "long", "boolean", "char", "String", "int[]", "long[]", "char[]", "byte[]").contains(field.getType().toString()));
          fields += isStatic ? 0 : 1;
        }
        CHECK.yes("a static block", member.getKind() != Tree.Kind.BLOCK);
      }
      CHECK.yes(tree.getSimpleName() + " has " + fields + " fields", fields <= 20);
      return super.visitClass(tree, nothing);
    }

    @Override
    public Void visitMethod(MethodTree tree, Void nothing) {
      method = trees.getElement(getCurrentPath());
      calls.putIfAbsent(method, new HashSet<>());
      isMaking = tree.getName().contentEquals("<init>");
      CHECK.yes(tree.getName() + " takes too many parameters", tree.getParameters().size() <= 7);
      CHECK.yes(tree.getName() + " is too long: " + lines(tree), lines(tree) <= 60);
      super.visitMethod(tree, nothing);
      method = null;
      return null;
    }

    @Override
    public Void visitMethodInvocation(MethodInvocationTree tree, Void nothing) {
      Element called = trees.getElement(new TreePath(getCurrentPath(), tree.getMethodSelect()));
      String owner = called.getEnclosingElement().toString();
      if (owner.startsWith("CrossBook")) {
        calls.get(method).add(called);
      } else {
        String name = called.getEnclosingElement().getSimpleName() + "." + called.getSimpleName();
        CHECK.yes("another library: " + name, LIBRARY.contains(name));
      }
      return super.visitMethodInvocation(tree, nothing);
    }

    @Override
    public Void visitBinary(BinaryTree tree, Void nothing) {
      TypeKind kind = trees.getTypeMirror(getCurrentPath()).getKind();
      CHECK.yes("texts are joined by +: " + tree, kind.isPrimitive());
      return super.visitBinary(tree, nothing);
    }

    @Override
    public Void visitNewClass(NewClassTree tree, Void nothing) {
      CHECK.yes("an object is made in a call: " + tree, method == null || isMaking);
      CHECK.yes("an anonymous class: " + tree, tree.getClassBody() == null);
      return super.visitNewClass(tree, nothing);
    }

    @Override
    public Void visitNewArray(NewArrayTree tree, Void nothing) {
      CHECK.yes("an array is made in a call: " + tree, method == null || isMaking);
      return super.visitNewArray(tree, nothing);
    }
  }

  private Set<Element> reached(Element from) {
    Set<Element> set = new HashSet<>();
    List<Element> next = new ArrayList<>(calls.getOrDefault(from, Set.of()));
    while (!next.isEmpty()) {
      Element one = next.remove(next.size() - 1);
      if (set.add(one)) {
        next.addAll(calls.getOrDefault(one, Set.of()));
      }
    }
    return set;
  }

  /** Only the acts call themselves, and they carry their depth. */
  private void recursion() {
    for (Element method : calls.keySet()) {
      if (reached(method).contains(method)) {
        CHECK.yes(method + " calls itself", method.getSimpleName().toString().matches("runAct|runBody"));
      }
    }
  }

  private int deepest(Element method, List<Element> open) {
    int most = 0;
    for (Element called : calls.getOrDefault(method, Set.of())) {
      if (!open.contains(called)) {
        List<Element> more = new ArrayList<>(open);
        more.add(called);
        most = Math.max(most, deepest(called, more));
      }
    }
    return most + 1;
  }

  private void depth() {
    for (Element method : calls.keySet()) {
      int deep = deepest(method, List.of(method));
      CHECK.yes(method + " goes " + deep + " calls deep", deep <= 8);
    }
  }
}
