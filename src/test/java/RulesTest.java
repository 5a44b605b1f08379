import com.sun.source.tree.*;
import com.sun.source.util.*;
import java.nio.file.Path;
import java.util.*;
import javax.lang.model.element.*;
import javax.tools.*;

/** Looks through the program's source for what LANGUAGE.md rules out; a first net, not the whole of the rules. */
public final class RulesTest extends TreePathScanner<Void, Void> {
  private static final Check check = new Check();
  private static final Set<String> LIBRARY = Set.of("String.length", "String.charAt", "Integer.bitCount",
    "Long.bitCount", "Long.numberOfTrailingZeros", "Math.min", "Math.max", "Arrays.fill", "Arrays.copyOf",
    "System.arraycopy", "Object.<init>");
  private static final Set<String> CONSTANTS = Set.of("int", "long", "boolean", "char", "java.lang.String", "int[]",
    "long[]", "char[]", "byte[]");

  private final Trees trees;
  private final CompilationUnitTree unit;
  private final Map<Element, Set<Element>> calls = new LinkedHashMap<>();
  private final Set<String> publics = new TreeSet<>();
  private final Set<String> others = new TreeSet<>();
  private int classes = 0;

  private RulesTest(Trees trees, CompilationUnitTree unit) {
    this.trees = trees;
    this.unit = unit;
  }

  private void bad(Tree at, String why) {
    long line = unit.getLineMap().getLineNumber(trees.getSourcePositions().getStartPosition(unit, at));
    check.due("line " + line + ": " + why, 1L, 0L);
  }

  private int lines(Tree t) {
    SourcePositions p = trees.getSourcePositions();
    LineMap map = unit.getLineMap();
    return (int) (map.getLineNumber(p.getEndPosition(unit, t)) - map.getLineNumber(p.getStartPosition(unit, t))) + 1;
  }

  @Override
  public Void scan(Tree t, Void v) {
    if (t != null) {
      switch (t.getKind()) {
        case THROW, TRY, CATCH, SYNCHRONIZED, ASSERT, LAMBDA_EXPRESSION, MEMBER_REFERENCE:
          bad(t, "ruled out: " + t.getKind());
          break;
        default:
      }
    }
    return super.scan(t, v);
  }

  @Override
  public Void visitClass(ClassTree t, Void v) {
    classes++;
    Element e = trees.getElement(getCurrentPath());
    boolean isFace = e.getSimpleName().contentEquals("MoodSlips");
    if (!isFace && !e.getModifiers().contains(Modifier.STATIC)) bad(t, "a class inside that is not static");
    int fields = 0;
    for (Element member : e.getEnclosedElements()) {
      Set<Modifier> m = member.getModifiers();
      if (member.getKind() == ElementKind.FIELD) {
        if (!m.contains(Modifier.STATIC)) fields++;
        else if (!m.contains(Modifier.FINAL) || !CONSTANTS.contains(member.asType().toString()))
          bad(t, "static field " + member);
      }
      if (member.getKind() == ElementKind.METHOD)
        (m.contains(Modifier.PUBLIC) ? publics : others).add(member.getSimpleName().toString());
      if (isFace && !m.contains(Modifier.PRIVATE) && !m.contains(Modifier.PUBLIC)) bad(t, "visible: " + member);
    }
    if (fields > 20) bad(t, fields + " fields");
    return super.visitClass(t, v);
  }

  @Override
  public Void visitMethod(MethodTree t, Void v) {
    if (lines(t) > 60) bad(t, t.getName() + " has " + lines(t) + " lines");
    if (t.getParameters().size() > 7) bad(t, t.getName() + " has too many parameters");
    calls.computeIfAbsent(trees.getElement(getCurrentPath()), k -> new LinkedHashSet<>());
    return super.visitMethod(t, v);
  }

  private void noteCall(Tree t, Element called) {
    TreePath p = getCurrentPath();
    while (p != null && p.getLeaf().getKind() != Tree.Kind.METHOD) p = p.getParentPath();
    if (called == null) return;
    Element owner = called.getEnclosingElement();
    Element top = owner;
    while (top.getEnclosingElement().getKind() != ElementKind.PACKAGE) top = top.getEnclosingElement();
    if (top.getSimpleName().contentEquals("MoodSlips")) {
      if (p != null) calls.computeIfAbsent(trees.getElement(p), k -> new LinkedHashSet<>()).add(called);
    } else if (!LIBRARY.contains(owner.getSimpleName() + "." + called.getSimpleName())) {
      bad(t, "library: " + owner + "." + called);
    }
  }

  @Override
  public Void visitMethodInvocation(MethodInvocationTree t, Void v) {
    noteCall(t, trees.getElement(getCurrentPath()));
    return super.visitMethodInvocation(t, v);
  }

  @Override
  public Void visitNewClass(NewClassTree t, Void v) {
    if (t.getClassBody() != null) bad(t, "anonymous class");
    noteCall(t, trees.getElement(getCurrentPath()));
    return super.visitNewClass(t, v);
  }

  @Override
  public Void visitBinary(BinaryTree t, Void v) {
    boolean joins = t.getKind() == Tree.Kind.PLUS
      && trees.getTypeMirror(getCurrentPath()).toString().equals("java.lang.String");
    if (joins) bad(t, "texts joined by +");
    return super.visitBinary(t, v);
  }

  /** The longest row of calls; one that comes again in it is recursion and not followed. */
  private int depth(Element method, Set<Element> open) {
    if (!open.add(method)) return 0;
    int deepest = 0;
    for (Element called : calls.getOrDefault(method, Set.of())) deepest = Math.max(deepest, depth(called, open));
    open.remove(method);
    return deepest + 1;
  }

  private void checkWhole() {
    check.due("classes", classes > 12 ? classes : 0, 0L);
    for (String name : others) check.due("a name of the face: " + name, publics.contains(name) ? 1 : 0, 0L);
    check.due("methods of the face", publics.size(), 40L);
    for (Element method : calls.keySet()) {
      int deep = depth(method, new LinkedHashSet<>());
      check.due("calls below " + method, deep > 8 ? deep : 0, 0L);
    }
  }

  public static void main(String[] args) throws Exception {
    JavaCompiler compiler = ToolProvider.getSystemJavaCompiler();
    try (StandardJavaFileManager files = compiler.getStandardFileManager(null, null, null)) {
      JavacTask task = (JavacTask) compiler.getTask(null, files, null, List.of("-proc:none"), null,
        files.getJavaFileObjects(Path.of("src/main/java/MoodSlips.java")));
      CompilationUnitTree unit = task.parse().iterator().next();
      task.analyze();
      RulesTest rules = new RulesTest(Trees.instance(task), unit);
      rules.scan(unit, null);
      rules.checkWhole();
    }
    check.finish();
  }
}
