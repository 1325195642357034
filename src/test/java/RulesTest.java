import com.sun.source.tree.BinaryTree;
import com.sun.source.tree.ClassTree;
import com.sun.source.tree.CompilationUnitTree;
import com.sun.source.tree.CompoundAssignmentTree;
import com.sun.source.tree.ExpressionTree;
import com.sun.source.tree.LiteralTree;
import com.sun.source.tree.MethodInvocationTree;
import com.sun.source.tree.MethodTree;
import com.sun.source.tree.NewArrayTree;
import com.sun.source.tree.NewClassTree;
import com.sun.source.tree.Tree;
import com.sun.source.tree.TypeCastTree;
import com.sun.source.tree.VariableTree;
import com.sun.source.util.JavacTask;
import com.sun.source.util.TreePathScanner;
import com.sun.source.util.Trees;
import java.io.IOException;
import java.nio.file.Path;
import java.util.ArrayDeque;
import java.util.Deque;
import java.util.EnumSet;
import java.util.Map;
import java.util.Set;
import java.util.TreeMap;
import java.util.TreeSet;
import javax.lang.model.element.Element;
import javax.lang.model.element.Modifier;
import javax.tools.JavaCompiler;
import javax.tools.StandardJavaFileManager;
import javax.tools.ToolProvider;

/** Those rules of LANGUAGE.md that can be seen in the tree that the compiler makes of the class. */
public final class RulesTest {
  private static final Due due = new Due("RulesTest");
  private static final Path SOURCE = Path.of("src/main/java/GlulxStrings.java");

  public static void main(String[] args) throws IOException {
    JavaCompiler compiler = ToolProvider.getSystemJavaCompiler();
    no("compiler", compiler == null);
    if (compiler != null) {
      read(compiler);
    }
    due.end();
  }

  private static void read(JavaCompiler compiler) throws IOException {
    try (StandardJavaFileManager files = compiler.getStandardFileManager(null, null, null)) {
      JavacTask task = (JavacTask) compiler.getTask(null, files, null, null, null, files.getJavaFileObjects(SOURCE));
      Reader reader = new Reader(Trees.instance(task));
      for (CompilationUnitTree unit : task.parse()) {
        task.analyze();
        reader.unit = unit;
        reader.scan(unit, null);
      }
      reader.end();
    }
  }

  private static void no(String what, boolean is) {
    due.is("no " + what, is ? 1 : 0, 0);
  }

  private static final class Reader extends TreePathScanner<Void, Void> {
    private static final int MOST_LINES = 60, MOST_PARAMETERS = 7, MOST_DEPTH = 8, MOST_CLASSES = 12, MOST_FIELDS = 20;
    /** What the class uses of what rules 3 and 4 leave; more is to be looked up there ahead of use. */
    private static final Set<String> TYPES = Set.of("int", "long", "byte", "boolean", "String", "int[]", "int[][]",
        "long[]", "byte[]", "boolean[]");
    private static final Set<String> LIBRARY = Set.of("java.lang.Math.abs(long)", "java.lang.Math.max(int,int)",
        "java.lang.System.arraycopy(java.lang.Object,int,java.lang.Object,int,int)",
        "java.util.Arrays.fill(int[],int)", "java.lang.Object.Object()");
    private static final Set<Tree.Kind> RULED_OUT = EnumSet.of(Tree.Kind.THROW, Tree.Kind.TRY, Tree.Kind.CATCH,
        Tree.Kind.SYNCHRONIZED, Tree.Kind.ASSERT, Tree.Kind.LAMBDA_EXPRESSION, Tree.Kind.MEMBER_REFERENCE,
        Tree.Kind.DOUBLE_LITERAL, Tree.Kind.FLOAT_LITERAL, Tree.Kind.ANNOTATION, Tree.Kind.SWITCH_EXPRESSION);

    private final Trees trees;
    private final Set<String> classes = new TreeSet<>();
    private final Map<String, Set<String>> calls = new TreeMap<>();
    private final Deque<String> open = new ArrayDeque<>();
    private final Deque<MethodTree> methods = new ArrayDeque<>();
    private CompilationUnitTree unit;

    Reader(Trees trees) {
      this.trees = trees;
    }

    private String here(Tree tree) {
      return "line " + unit.getLineMap().getLineNumber(trees.getSourcePositions().getStartPosition(unit, tree));
    }

    private String nameOf(Element method) {
      return method.getEnclosingElement() + "." + method;
    }

    @Override
    public Void scan(Tree tree, Void none) {
      if (tree != null) {
        no(tree.getKind() + ", " + here(tree), RULED_OUT.contains(tree.getKind()));
      }
      return super.scan(tree, none);
    }

    @Override
    public Void visitClass(ClassTree tree, Void none) {
      boolean inside = getCurrentPath().getParentPath().getLeaf() instanceof ClassTree;
      boolean outmost = getCurrentPath().getParentPath().getLeaf() instanceof CompilationUnitTree;
      no("local class, " + here(tree), !inside && !outmost);
      no("inner class, " + here(tree), inside && !tree.getModifiers().getFlags().contains(Modifier.STATIC));
      classes.add(tree.getSimpleName().toString());
      int fields = 0;
      for (Tree member : tree.getMembers()) {
        if (member instanceof ClassTree own) {
          classes.add(own.getSimpleName().toString());
        }
        no("initialiser block, " + here(member), member.getKind() == Tree.Kind.BLOCK);
        if (member instanceof VariableTree field) {
          fields += field.getModifiers().getFlags().contains(Modifier.STATIC) ? 0 : 1;
          no("static state, " + here(member), field.getModifiers().getFlags().contains(Modifier.STATIC)
              && !field.getModifiers().getFlags().contains(Modifier.FINAL));
        }
      }
      no("class of " + fields + " fields, " + here(tree), fields > MOST_FIELDS);
      return super.visitClass(tree, none);
    }

    @Override
    public Void visitMethod(MethodTree tree, Void none) {
      long from = unit.getLineMap().getLineNumber(trees.getSourcePositions().getStartPosition(unit, tree));
      long to = unit.getLineMap().getLineNumber(trees.getSourcePositions().getEndPosition(unit, tree));
      no("method of " + (to - from + 1) + " lines, " + here(tree), to - from + 1 > MOST_LINES);
      no("method of many parameters, " + here(tree), tree.getParameters().size() > MOST_PARAMETERS);
      methods.push(tree);
      super.visitMethod(tree, none);
      methods.pop();
      return null;
    }

    @Override
    public Void visitVariable(VariableTree tree, Void none) {
      String type = String.valueOf(tree.getType());
      String one = type.endsWith("[]") ? type.substring(0, type.length() - 2) : type;
      no("type " + type + ", " + here(tree), !TYPES.contains(type) && !classes.contains(one));
      return super.visitVariable(tree, none);
    }

    @Override
    public Void visitMethodInvocation(MethodInvocationTree tree, Void none) {
      Element called = trees.getElement(getCurrentPath());
      String name = nameOf(called);
      no("call of " + name + ", " + here(tree), !name.startsWith("GlulxStrings") && !LIBRARY.contains(name));
      callTo(name);
      return super.visitMethodInvocation(tree, none);
    }

    private void callTo(String name) {
      if (methods.isEmpty()) {
        return;
      }
      Element from = trees.getElement(trees.getPath(unit, methods.peek()));
      calls.computeIfAbsent(nameOf(from), k -> new TreeSet<>()).add(name);
    }

    /** All rows are made once: what is made by a call again and again would fill the room. */
    private boolean isMadeOnce() {
      return methods.isEmpty() || methods.peek().getReturnType() == null;
    }

    @Override
    public Void visitNewClass(NewClassTree tree, Void none) {
      no("object made by a call, " + here(tree), !isMadeOnce());
      no("class without a name, " + here(tree), tree.getClassBody() != null);
      callTo(nameOf(trees.getElement(getCurrentPath())));
      return super.visitNewClass(tree, none);
    }

    @Override
    public Void visitNewArray(NewArrayTree tree, Void none) {
      no("array made by a call, " + here(tree), !isMadeOnce());
      return super.visitNewArray(tree, none);
    }

    @Override
    public Void visitBinary(BinaryTree tree, Void none) {
      if (tree.getKind() == Tree.Kind.DIVIDE || tree.getKind() == Tree.Kind.REMAINDER) {
        divisor(tree.getRightOperand());
      }
      return super.visitBinary(tree, none);
    }

    @Override
    public Void visitCompoundAssignment(CompoundAssignmentTree tree, Void none) {
      if (tree.getKind() == Tree.Kind.DIVIDE_ASSIGNMENT || tree.getKind() == Tree.Kind.REMAINDER_ASSIGNMENT) {
        divisor(tree.getExpression());
      }
      return super.visitCompoundAssignment(tree, none);
    }

    private void divisor(ExpressionTree by) {
      boolean isNumber = by instanceof LiteralTree told && told.getValue() instanceof Integer n && n != 0;
      no("divisor that could be 0, " + here(by), !isNumber);
    }

    @Override
    public Void visitTypeCast(TypeCastTree tree, Void none) {
      no("cast of an object, " + here(tree), tree.getType().getKind() != Tree.Kind.PRIMITIVE_TYPE);
      return super.visitTypeCast(tree, none);
    }

    void end() {
      no("class but these: " + classes, classes.size() > MOST_CLASSES);
      for (String method : calls.keySet()) {
        int depth = depthOf(method);
        no("calls " + depth + " deep from " + method, depth > MOST_DEPTH);
      }
    }

    private int depthOf(String method) {
      if (open.contains(method)) {
        no("recursion: " + method, true);
        return 1;
      }
      open.push(method);
      int below = 0;
      for (String called : calls.getOrDefault(method, Set.of())) {
        below = Math.max(below, depthOf(called));
      }
      open.pop();
      return below + 1;
    }
  }
}
