import com.sun.source.tree.AssertTree;
import com.sun.source.tree.BinaryTree;
import com.sun.source.tree.ClassTree;
import com.sun.source.tree.CompilationUnitTree;
import com.sun.source.tree.InstanceOfTree;
import com.sun.source.tree.LambdaExpressionTree;
import com.sun.source.tree.MemberReferenceTree;
import com.sun.source.tree.MethodInvocationTree;
import com.sun.source.tree.MethodTree;
import com.sun.source.tree.NewArrayTree;
import com.sun.source.tree.NewClassTree;
import com.sun.source.tree.SynchronizedTree;
import com.sun.source.tree.Tree;
import com.sun.source.tree.TryTree;
import com.sun.source.tree.TypeCastTree;
import com.sun.source.tree.VariableTree;
import com.sun.source.util.JavacTask;
import com.sun.source.util.SourcePositions;
import com.sun.source.util.TreePathScanner;
import com.sun.source.util.Trees;
import java.io.IOException;
import java.nio.file.Path;
import java.util.ArrayDeque;
import java.util.HashMap;
import java.util.List;
import java.util.Map;
import java.util.Set;
import java.util.TreeSet;
import javax.lang.model.element.Element;
import javax.lang.model.element.ExecutableElement;
import javax.lang.model.element.Modifier;
import javax.tools.JavaCompiler;
import javax.tools.StandardJavaFileManager;
import javax.tools.ToolProvider;

/** The rules of LANGUAGE.md that a reader of the source can look after; its words are those of the rules. */
public final class LanguageTest {
  private static final Set<String> LIBRARY = Set.of("java.lang.Math.min", "java.lang.Math.max", "java.lang.Integer.bitCount",
      "java.util.Arrays.fill", "java.lang.Object.super");
  private static final Set<String> THROWN = Set.of("IllegalStateException", "IllegalArgumentException",
      "IndexOutOfBoundsException", "ArithmeticException", "UnsupportedOperationException", "NoSuchElementException",
      "RuntimeException");

  private static int wrong = 0;

  private static void need(boolean holds, String what) {
    if (!holds) {
      wrong++;
      System.out.println(what);
    }
  }

  public static void main(String[] args) throws IOException {
    JavaCompiler compiler = ToolProvider.getSystemJavaCompiler();
    try (StandardJavaFileManager files = compiler.getStandardFileManager(null, null, null)) {
      JavacTask task = (JavacTask) compiler.getTask(null, files, null, null, null,
          files.getJavaFileObjects(Path.of("src", "main", "java", "TallTowers.java")));
      CompilationUnitTree unit = task.parse().iterator().next();
      task.analyze();
      Reader reader = new Reader(Trees.instance(task), unit);
      reader.scan(unit, null);
      reader.end();
    }
    System.out.println("LanguageTest: " + wrong + " wrong");
    if (wrong > 0) System.exit(1);
  }

  private static final class Reader extends TreePathScanner<Void, Void> {
    private final Trees trees;
    private final CompilationUnitTree unit;
    private final Map<String, Set<String>> calls = new HashMap<>();
    private final ArrayDeque<String> inside = new ArrayDeque<>();
    private int classes;

    Reader(Trees trees, CompilationUnitTree unit) {
      this.trees = trees;
      this.unit = unit;
    }

    void end() {
      need(classes <= 12, "rule 11: " + classes + " classes");
      for (String method : calls.keySet()) depth(method, new TreeSet<>());
    }

    /** How many calls stand open at once from a method on; a method that is met again is a recursion. */
    private int depth(String method, Set<String> open) {
      need(!open.contains(method), "rule 8: recursion through " + method);
      if (!open.add(method)) return 0;
      int deepest = 0;
      for (String next : calls.getOrDefault(method, Set.of())) deepest = Math.max(deepest, depth(next, open));
      open.remove(method);
      need(deepest + 1 <= 8, "rule 11: calls go " + (deepest + 1) + " deep from " + method);
      return deepest + 1;
    }

    private String place(Tree tree) {
      SourcePositions positions = trees.getSourcePositions();
      return "line " + unit.getLineMap().getLineNumber(positions.getStartPosition(unit, tree)) + ": ";
    }

    private void no(Tree tree, String what) {
      need(false, place(tree) + what);
    }

    @Override public Void visitClass(ClassTree tree, Void nothing) {
      classes++;
      int fields = 0;
      for (Tree member : tree.getMembers()) {
        if (member instanceof VariableTree v) {
          boolean fixed = v.getModifiers().getFlags().contains(Modifier.STATIC);
          fields += fixed ? 0 : 1;
          need(!fixed || v.getModifiers().getFlags().contains(Modifier.FINAL), place(v) + "rule 5: a static field is final");
        }
        need(member.getKind() != Tree.Kind.BLOCK, place(member) + "rule 5: no initialiser block");
      }
      need(fields <= 20, place(tree) + "rule 11: " + fields + " fields");
      return super.visitClass(tree, nothing);
    }

    @Override public Void visitMethod(MethodTree tree, Void nothing) {
      SourcePositions positions = trees.getSourcePositions();
      long first = unit.getLineMap().getLineNumber(Math.max(0, positions.getStartPosition(unit, tree)));
      long last = unit.getLineMap().getLineNumber(Math.max(0, positions.getEndPosition(unit, tree)));
      need(last - first < 60, place(tree) + "rule 11: a method of " + (last - first + 1) + " lines");
      need(tree.getParameters().size() <= 7, place(tree) + "rule 11: more than seven parameters");
      Element element = trees.getElement(getCurrentPath());
      boolean ofFace = Face.methods().containsKey(tree.getName().toString());
      need(!ofFace || element.getModifiers().contains(Modifier.PUBLIC), place(tree) + "rule 1: the name of a public method");
      inside.push(nameOf(element));
      calls.computeIfAbsent(nameOf(element), n -> new TreeSet<>());
      super.visitMethod(tree, nothing);
      inside.pop();
      return null;
    }

    private static String nameOf(Element element) {
      ExecutableElement e = (ExecutableElement) element;
      String name = e.getSimpleName().contentEquals("<init>") ? "super" : e.getSimpleName().toString();
      return e.getEnclosingElement() + "." + name;
    }

    @Override public Void visitMethodInvocation(MethodInvocationTree tree, Void nothing) {
      Element element = trees.getElement(getCurrentPath());
      String name = nameOf(element);
      boolean own = name.startsWith("TallTowers");
      need(own || LIBRARY.contains(name), place(tree) + "rule 4: " + name);
      need(!name.equals("java.util.Arrays.fill") || tree.getArguments().size() == 2, place(tree) + "rule 4: fill of a range");
      if (!inside.isEmpty()) calls.get(inside.peek()).add(name);
      return super.visitMethodInvocation(tree, nothing);
    }

    @Override public Void visitNewClass(NewClassTree tree, Void nothing) {
      String name = tree.getIdentifier().toString();
      boolean thrown = getCurrentPath().getParentPath().getLeaf().getKind() == Tree.Kind.THROW;
      need(tree.getClassBody() == null, place(tree) + "rule 2: an anonymous class");
      need(!thrown || THROWN.contains(name), place(tree) + "rule 6: throws " + name);
      boolean making = inside.isEmpty() || inside.peek().endsWith(".super");
      need(thrown || making, place(tree) + "an object is made outside a constructor: what a run makes is counted");
      return super.visitNewClass(tree, nothing);
    }

    @Override public Void visitNewArray(NewArrayTree tree, Void nothing) {
      need(inside.isEmpty() || inside.peek().endsWith(".super"), place(tree) + "an array is made outside a constructor");
      return super.visitNewArray(tree, nothing);
    }

    @Override public Void visitBinary(BinaryTree tree, Void nothing) {
      boolean text = trees.getTypeMirror(getCurrentPath()).toString().equals("java.lang.String");
      need(!text, place(tree) + "rule 10: texts are not joined by +");
      return super.visitBinary(tree, nothing);
    }

    @Override public Void visitTypeCast(TypeCastTree tree, Void nothing) {
      need(List.of("long", "int").contains(tree.getType().toString()), place(tree) + "rule 6: a cast");
      return super.visitTypeCast(tree, nothing);
    }

    @Override public Void visitTry(TryTree tree, Void nothing) {
      no(tree, "rule 6: try");
      return super.visitTry(tree, nothing);
    }

    @Override public Void visitLambdaExpression(LambdaExpressionTree tree, Void nothing) {
      no(tree, "rule 2: a lambda");
      return super.visitLambdaExpression(tree, nothing);
    }

    @Override public Void visitMemberReference(MemberReferenceTree tree, Void nothing) {
      no(tree, "rule 2: a method reference");
      return super.visitMemberReference(tree, nothing);
    }

    @Override public Void visitSynchronized(SynchronizedTree tree, Void nothing) {
      no(tree, "rule 6: synchronized");
      return super.visitSynchronized(tree, nothing);
    }

    @Override public Void visitAssert(AssertTree tree, Void nothing) {
      no(tree, "rule 6: assert");
      return super.visitAssert(tree, nothing);
    }

    @Override public Void visitInstanceOf(InstanceOfTree tree, Void nothing) {
      no(tree, "an instanceof, of which this program has no need");
      return super.visitInstanceOf(tree, nothing);
    }
  }
}
