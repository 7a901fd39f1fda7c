import com.sun.source.tree.ArrayAccessTree;
import com.sun.source.tree.AssertTree;
import com.sun.source.tree.BinaryTree;
import com.sun.source.tree.BlockTree;
import com.sun.source.tree.ClassTree;
import com.sun.source.tree.CompilationUnitTree;
import com.sun.source.tree.CompoundAssignmentTree;
import com.sun.source.tree.DoWhileLoopTree;
import com.sun.source.tree.ExpressionTree;
import com.sun.source.tree.ForLoopTree;
import com.sun.source.tree.LambdaExpressionTree;
import com.sun.source.tree.LiteralTree;
import com.sun.source.tree.MemberReferenceTree;
import com.sun.source.tree.MethodInvocationTree;
import com.sun.source.tree.MethodTree;
import com.sun.source.tree.NewArrayTree;
import com.sun.source.tree.NewClassTree;
import com.sun.source.tree.SwitchExpressionTree;
import com.sun.source.tree.SwitchTree;
import com.sun.source.tree.SynchronizedTree;
import com.sun.source.tree.ThrowTree;
import com.sun.source.tree.Tree;
import com.sun.source.tree.TryTree;
import com.sun.source.tree.TypeCastTree;
import com.sun.source.tree.VariableTree;
import com.sun.source.tree.WhileLoopTree;
import com.sun.source.util.JavacTask;
import com.sun.source.util.TreePath;
import com.sun.source.util.TreePathScanner;
import com.sun.source.util.Trees;
import java.io.IOException;
import java.net.URI;
import java.util.ArrayList;
import java.util.HashMap;
import java.util.LinkedHashMap;
import java.util.List;
import java.util.Map;
import java.util.Set;
import java.util.TreeSet;
import javax.lang.model.element.Element;
import javax.lang.model.element.ElementKind;
import javax.lang.model.element.ExecutableElement;
import javax.lang.model.element.Modifier;
import javax.lang.model.element.TypeElement;
import javax.lang.model.type.ArrayType;
import javax.lang.model.type.DeclaredType;
import javax.lang.model.type.TypeKind;
import javax.lang.model.type.TypeMirror;
import javax.tools.DiagnosticCollector;
import javax.tools.JavaCompiler;
import javax.tools.JavaFileObject;
import javax.tools.SimpleJavaFileObject;
import javax.tools.ToolProvider;

/** Reads a program by the compiler's own tree and tells each breach of LANGUAGE.md that can be seen there, by the rule's number. */
final class Language extends TreePathScanner<Void, Void> {
  private static final int MOST_PARAMETERS = 7, MOST_LINES = 60, MOST_DEPTH = 8, MOST_CLASSES = 12, MOST_FIELDS = 20;
  private static final Set<String> TYPES = Set.of("java.lang.String", "java.lang.StringBuilder", "java.lang.Integer", "java.util.ArrayList", "java.util.List");
  private static final Map<String, Set<String>> LIBRARY = Map.of(
      "java.lang.String", Set.of("length", "charAt", "isEmpty", "equals", "indexOf", "substring", "toCharArray"),
      "java.lang.StringBuilder", Set.of("append", "charAt", "setCharAt", "setLength", "deleteCharAt", "reverse", "length", "toString"),
      "java.util.ArrayList", Set.of("add", "get", "set", "remove", "size", "isEmpty", "clear"),
      "java.util.List", Set.of("add", "get", "set", "remove", "size", "isEmpty", "clear", "of"),
      "java.lang.Integer", Set.of("compare", "max", "min", "bitCount"),
      "java.lang.Long", Set.of("compare", "max", "min", "bitCount"),
      "java.lang.Math", Set.of("max", "min", "abs", "floorDiv", "floorMod"),
      "java.lang.System", Set.of("arraycopy"),
      "java.util.Arrays", Set.of("copyOf", "copyOfRange", "fill"));
  private static final Set<Tree.Kind> COMPARISONS = Set.of(Tree.Kind.LESS_THAN, Tree.Kind.LESS_THAN_EQUAL, Tree.Kind.GREATER_THAN,
      Tree.Kind.GREATER_THAN_EQUAL);

  private final String source;
  private final List<String> breaches = new ArrayList<>();
  private final Map<String, Set<String>> calls = new LinkedHashMap<>();
  private CompilationUnitTree unit;
  private Trees trees;
  private String method = null;
  private int classes = 0;

  private Language(String source) { this.source = source; }

  /** Empty: none that can be seen. */
  static List<String> breaches(String source) throws IOException {
    JavaCompiler compiler = ToolProvider.getSystemJavaCompiler();
    DiagnosticCollector<JavaFileObject> said = new DiagnosticCollector<>();
    JavaFileObject file = new SimpleJavaFileObject(URI.create("string:///RootBoxes.java"), JavaFileObject.Kind.SOURCE) {
      @Override public CharSequence getCharContent(boolean ignoreErrors) { return source; }
    };
    JavacTask task = (JavacTask) compiler.getTask(null, null, said, List.of("-proc:none", "--release", "17"), null, List.of(file));
    Language language = new Language(source);
    language.unit = task.parse().iterator().next();
    task.analyze();
    said.getDiagnostics().stream().filter(d -> d.getKind() == javax.tools.Diagnostic.Kind.ERROR)
        .forEach(d -> language.breaches.add("does not compile: " + d.getMessage(null)));
    language.trees = Trees.instance(task);
    language.scan(new TreePath(language.unit), null);
    language.wholeFile();
    return language.breaches;
  }

  private void breach(int rule, String what, Tree at) {
    long line = at == null ? 0 : unit.getLineMap().getLineNumber(trees.getSourcePositions().getStartPosition(unit, at));
    breaches.add("rule " + rule + ": " + what + (line > 0 ? " (line " + line + ")" : ""));
  }

  private void wholeFile() {
    if (unit.getPackageName() != null) breach(1, "a package line", unit.getPackageName());
    unit.getImports().stream().filter(i -> !TYPES.contains(i.getQualifiedIdentifier().toString()) && !i.getQualifiedIdentifier().toString().equals("java.util.Arrays"))
        .forEach(i -> breach(4, "import of " + i.getQualifiedIdentifier(), i));
    if (unit.getTypeDecls().size() != 1) breach(1, "more than one class outside", null);
    if (!source.chars().allMatch(c -> c > 0 && c < 128)) breach(4, "a sign beyond 127", null);
    if (classes > MOST_CLASSES) breach(11, classes + " classes", null);
    Map<String, Integer> depths = new HashMap<>();
    for (String name : calls.keySet()) depth(name, new ArrayList<>(), depths);
    depths.forEach((name, depth) -> {
      if (depth > MOST_DEPTH) breach(11, "calls go " + depth + " deep from " + name, null);
    });
  }

  /** Recursion is allowed by rule 8, but this program has none: so its depth can be counted. */
  private int depth(String name, List<String> above, Map<String, Integer> depths) {
    if (above.contains(name)) {
      breach(8, "recursion: " + above + " " + name, null);
      return 0;
    }
    if (depths.containsKey(name)) return depths.get(name);
    above.add(name);
    int deepest = 0;
    for (String called : calls.getOrDefault(name, Set.of())) deepest = Math.max(deepest, depth(called, above, depths));
    above.remove(above.size() - 1);
    depths.put(name, deepest + 1);
    return deepest + 1;
  }

  private Element element() { return trees.getElement(getCurrentPath()); }

  private TypeMirror typeOf(Tree tree) { return trees.getTypeMirror(new TreePath(getCurrentPath(), tree)); }

  private static boolean isOwn(Element element) {
    for (Element at = element; at != null; at = at.getEnclosingElement()) if (at instanceof TypeElement t && t.getQualifiedName().contentEquals("RootBoxes")) return true;
    return false;
  }

  private static String nameOf(TypeMirror type) { return type instanceof DeclaredType d ? ((TypeElement) d.asElement()).getQualifiedName().toString() : "" + type; }

  // ---- rules 1, 2, 5, 11, 12: what is declared

  @Override public Void visitClass(ClassTree tree, Void none) {
    classes++;
    Element element = element();
    boolean outside = getCurrentPath().getParentPath().getLeaf() instanceof CompilationUnitTree;
    Set<Modifier> modifiers = tree.getModifiers().getFlags();
    if (tree.getSimpleName().length() == 0) breach(2, "an anonymous class", tree);
    else if (!outside && !(getCurrentPath().getParentPath().getLeaf() instanceof ClassTree)) breach(2, "a local class", tree);
    else if (!outside && !element.getModifiers().contains(Modifier.STATIC)) breach(2, "an inner class that is not static", tree);
    if (!outside && (modifiers.contains(Modifier.PUBLIC) || modifiers.contains(Modifier.PROTECTED))) breach(1, "a public class inside", tree);
    int fields = 0;
    for (Tree member : tree.getMembers()) {
      if (member instanceof VariableTree v && !v.getModifiers().getFlags().contains(Modifier.STATIC)) fields++;
      if (member instanceof BlockTree b && b.isStatic()) breach(5, "a static initialiser block", b);
    }
    if (fields > MOST_FIELDS) breach(11, fields + " fields of " + tree.getSimpleName(), tree);
    return super.visitClass(tree, none);
  }

  @Override public Void visitVariable(VariableTree tree, Void none) {
    Element element = element();
    TypeMirror type = element == null ? null : element.asType();
    if (type != null) checkType(type, tree);
    if (element != null && element.getKind() == ElementKind.FIELD && element.getModifiers().contains(Modifier.STATIC)) staticField(tree, element, type);
    return super.visitVariable(tree, none);
  }

  private void staticField(VariableTree tree, Element element, TypeMirror type) {
    if (!element.getModifiers().contains(Modifier.FINAL)) breach(5, "static " + tree.getName() + " is not final", tree);
    boolean array = type instanceof ArrayType a && Set.of(TypeKind.INT, TypeKind.LONG, TypeKind.CHAR, TypeKind.BYTE).contains(a.getComponentType().getKind())
        && tree.getInitializer() instanceof NewArrayTree n && n.getInitializers() != null;
    boolean plain = Set.of(TypeKind.INT, TypeKind.LONG, TypeKind.BOOLEAN, TypeKind.CHAR).contains(type.getKind()) || nameOf(type).equals("java.lang.String");
    if (!array && !plain) breach(5, "static " + tree.getName() + " is of " + type, tree);
  }

  private void checkType(TypeMirror type, Tree at) {
    int dimensions = 0;
    TypeMirror inner = type;
    while (inner instanceof ArrayType a) {
      dimensions++;
      inner = a.getComponentType();
    }
    if (dimensions > 2 || dimensions == 2 && !inner.getKind().isPrimitive()) breach(3, "an array " + type, at);
    if (inner instanceof DeclaredType d) {
      if (!isOwn(d.asElement()) && !TYPES.contains(nameOf(inner))) breach(3, "the type " + inner, at);
    } else if (!inner.getKind().isPrimitive() && inner.getKind() != TypeKind.VOID && inner.getKind() != TypeKind.TYPEVAR) {
      breach(3, "the type " + inner, at);
    }
  }

  @Override public Void visitMethod(MethodTree tree, Void none) {
    String before = method;
    ExecutableElement element = (ExecutableElement) element();
    method = signature(element);
    calls.computeIfAbsent(method, k -> new TreeSet<>());
    if (tree.getParameters().size() > MOST_PARAMETERS) breach(11, tree.getName() + " takes more than seven", tree);
    if (lines(tree) > MOST_LINES) breach(11, tree.getName() + " has " + lines(tree) + " lines", tree);
    if (!tree.getThrows().isEmpty()) breach(6, tree.getName() + " has a throws", tree);
    if (Set.of("equals", "hashCode", "toString").contains(tree.getName().toString())) breach(6, "an own " + tree.getName(), tree);
    if (!element.getKind().equals(ElementKind.CONSTRUCTOR)) checkType(element.getReturnType(), tree);
    indexes(tree);
    super.visitMethod(tree, none);
    method = before;
    return null;
  }

  private long lines(MethodTree tree) {
    long from = trees.getSourcePositions().getStartPosition(unit, tree), to = trees.getSourcePositions().getEndPosition(unit, tree);
    return unit.getLineMap().getLineNumber(to) - unit.getLineMap().getLineNumber(from) + 1;
  }

  private static String signature(ExecutableElement e) { return ((TypeElement) e.getEnclosingElement()).getQualifiedName() + "." + e; }

  // ---- rules 4, 6, 8, 12: what is called and made

  @Override public Void visitMethodInvocation(MethodInvocationTree tree, Void none) {
    ExecutableElement called = (ExecutableElement) element();
    TypeElement owner = (TypeElement) called.getEnclosingElement();
    String name = called.getSimpleName().toString();
    boolean isSuper = name.equals("<init>");
    if (!isSuper && method != null) calls.get(method).add(signature(called));
    boolean ofArray = name.equals("clone") && tree.getMethodSelect().toString().endsWith(".clone");
    if (!isSuper && !ofArray && !isOwn(owner)) {
      if (!LIBRARY.getOrDefault(owner.getQualifiedName().toString(), Set.of()).contains(name)) breach(4, owner + "." + name, tree);
    }
    if (Set.of("floorDiv", "floorMod").contains(name) && tree.getArguments().size() == 2) divisor(tree.getArguments().get(1), tree);
    if (inConstructor()) {
      if (!isSuper && isOwn(owner) && canBeOverridden(called)) breach(12, "a constructor calls " + name, tree);
      for (ExpressionTree argument : tree.getArguments()) if (argument.toString().equals("this")) breach(12, "a constructor hands out this", tree);
    }
    return super.visitMethodInvocation(tree, none);
  }

  private boolean inConstructor() { return method != null && method.matches("(.*\\.)?(\\w+)\\.\\2\\(.*"); }

  private static boolean canBeOverridden(ExecutableElement called) {
    Set<Modifier> modifiers = called.getModifiers();
    boolean fixed = modifiers.contains(Modifier.PRIVATE) || modifiers.contains(Modifier.STATIC) || modifiers.contains(Modifier.FINAL);
    return !fixed && !called.getEnclosingElement().getModifiers().contains(Modifier.FINAL);
  }

  @Override public Void visitNewClass(NewClassTree tree, Void none) {
    TypeMirror type = typeOf(tree.getIdentifier());
    if (type != null) checkType(type, tree);
    Element made = element();
    if (made instanceof ExecutableElement e && isOwn(e) && method != null) calls.get(method).add(signature(e));
    if (inConstructor()) for (ExpressionTree argument : tree.getArguments()) if (argument.toString().equals("this")) breach(12, "a constructor hands out this", tree);
    return super.visitNewClass(tree, none);
  }

  // ---- rule 7: what is looked at before it is used

  private void divisor(Tree by, Tree at) {
    if (by instanceof LiteralTree l && l.getValue() instanceof Number n && n.longValue() != 0) return;
    if (trees.getElement(new TreePath(getCurrentPath(), by)) instanceof javax.lang.model.element.VariableElement v
        && v.getConstantValue() instanceof Number n && n.longValue() != 0) return;
    for (TreePath path = getCurrentPath(); path != null; path = path.getParentPath()) {
      if (path.getLeaf() instanceof MethodTree m) {
        String body = source.substring((int) trees.getSourcePositions().getStartPosition(unit, m), (int) trees.getSourcePositions().getStartPosition(unit, at));
        if (body.contains(by + " == 0") || body.contains(by + " != 0") || body.contains(by + " > 0")) return;
      }
    }
    breach(7, "the divisor " + by + " is not looked at", at);
  }

  /** An index that is no constant wants a comparison, or a question to an own method, somewhere before it. */
  private void indexes(MethodTree tree) {
    boolean[] looked = {false};
    new TreePathScanner<Void, Void>() {
      @Override public Void visitBinary(BinaryTree t, Void none) {
        looked[0] |= COMPARISONS.contains(t.getKind());
        return super.visitBinary(t, none);
      }

      @Override public Void visitMethodInvocation(MethodInvocationTree t, Void none) {
        looked[0] |= t.getMethodSelect().toString().matches("(.*\\.)?(is|has)[A-Z]?\\w*");
        return super.visitMethodInvocation(t, none);
      }

      @Override public Void visitArrayAccess(ArrayAccessTree t, Void none) {
        super.visitArrayAccess(t, none);
        if (!looked[0] && !(t.getIndex() instanceof LiteralTree)) breach(7, "the index of " + t + " is not looked at", t);
        return null;
      }
    }.scan(getCurrentPath(), null);
  }

  // ---- rules 2, 6, 9, 10: what stands in a method

  @Override public Void visitBinary(BinaryTree tree, Void none) {
    TypeMirror left = typeOf(tree.getLeftOperand()), right = typeOf(tree.getRightOperand());
    Tree.Kind kind = tree.getKind();
    if (kind == Tree.Kind.DIVIDE || kind == Tree.Kind.REMAINDER) divisor(tree.getRightOperand(), tree);
    if (kind == Tree.Kind.PLUS && (nameOf(left).equals("java.lang.String") || nameOf(right).equals("java.lang.String"))) breach(10, "texts joined by +", tree);
    if (kind == Tree.Kind.EQUAL_TO || kind == Tree.Kind.NOT_EQUAL_TO) {
      for (String type : List.of("java.lang.String", "java.lang.Integer")) if (nameOf(left).equals(type) && nameOf(right).equals(type)) breach(6, "== of two " + type, tree);
    }
    return super.visitBinary(tree, none);
  }

  @Override public Void visitCompoundAssignment(CompoundAssignmentTree tree, Void none) {
    if (tree.getKind() == Tree.Kind.DIVIDE_ASSIGNMENT || tree.getKind() == Tree.Kind.REMAINDER_ASSIGNMENT) divisor(tree.getExpression(), tree);
    if (tree.getKind() == Tree.Kind.PLUS_ASSIGNMENT && nameOf(typeOf(tree.getVariable())).equals("java.lang.String")) breach(10, "texts joined by +=", tree);
    return super.visitCompoundAssignment(tree, none);
  }

  @Override public Void visitTypeCast(TypeCastTree tree, Void none) {
    TypeMirror type = typeOf(tree.getType());
    if (type != null && !type.getKind().isPrimitive()) breach(6, "a cast to " + type, tree);
    return super.visitTypeCast(tree, none);
  }

  private void loop(ExpressionTree condition, Tree at) {
    boolean[] bound = {false};
    if (condition != null) {
      new TreePathScanner<Void, Void>() {
        @Override public Void visitBinary(BinaryTree t, Void none) {
          bound[0] |= COMPARISONS.contains(t.getKind());
          return super.visitBinary(t, none);
        }
      }.scan(new TreePath(getCurrentPath(), condition), null);
    }
    if (!bound[0]) breach(9, "a loop without a bound in its own lines", at);
  }

  @Override public Void visitWhileLoop(WhileLoopTree tree, Void none) {
    loop(tree.getCondition(), tree);
    return super.visitWhileLoop(tree, none);
  }

  @Override public Void visitDoWhileLoop(DoWhileLoopTree tree, Void none) {
    loop(tree.getCondition(), tree);
    return super.visitDoWhileLoop(tree, none);
  }

  @Override public Void visitForLoop(ForLoopTree tree, Void none) {
    loop(tree.getCondition(), tree);
    return super.visitForLoop(tree, none);
  }

  @Override public Void visitSwitch(SwitchTree tree, Void none) {
    if (nameOf(typeOf(tree.getExpression())).equals("java.lang.String")) breach(10, "a switch on a text", tree);
    return super.visitSwitch(tree, none);
  }

  @Override public Void visitSwitchExpression(SwitchExpressionTree tree, Void none) {
    if (nameOf(typeOf(tree.getExpression())).equals("java.lang.String")) breach(10, "a switch on a text", tree);
    return super.visitSwitchExpression(tree, none);
  }

  @Override public Void visitLambdaExpression(LambdaExpressionTree tree, Void none) {
    breach(2, "a lambda", tree);
    return super.visitLambdaExpression(tree, none);
  }

  @Override public Void visitMemberReference(MemberReferenceTree tree, Void none) {
    breach(2, "a method reference", tree);
    return super.visitMemberReference(tree, none);
  }

  @Override public Void visitThrow(ThrowTree tree, Void none) {
    breach(6, "a throw", tree);
    return super.visitThrow(tree, none);
  }

  @Override public Void visitTry(TryTree tree, Void none) {
    breach(6, "a try", tree);
    return super.visitTry(tree, none);
  }

  @Override public Void visitSynchronized(SynchronizedTree tree, Void none) {
    breach(6, "a synchronized", tree);
    return super.visitSynchronized(tree, none);
  }

  @Override public Void visitAssert(AssertTree tree, Void none) {
    breach(6, "an assert", tree);
    return super.visitAssert(tree, none);
  }
}
