import com.sun.source.tree.AnnotationTree;
import com.sun.source.tree.AssertTree;
import com.sun.source.tree.BinaryTree;
import com.sun.source.tree.ClassTree;
import com.sun.source.tree.CompilationUnitTree;
import com.sun.source.tree.DoWhileLoopTree;
import com.sun.source.tree.EnhancedForLoopTree;
import com.sun.source.tree.ForLoopTree;
import com.sun.source.tree.IdentifierTree;
import com.sun.source.tree.ImportTree;
import com.sun.source.tree.LambdaExpressionTree;
import com.sun.source.tree.MemberReferenceTree;
import com.sun.source.tree.MemberSelectTree;
import com.sun.source.tree.MethodInvocationTree;
import com.sun.source.tree.MethodTree;
import com.sun.source.tree.NewArrayTree;
import com.sun.source.tree.NewClassTree;
import com.sun.source.tree.SynchronizedTree;
import com.sun.source.tree.ThrowTree;
import com.sun.source.tree.Tree;
import com.sun.source.tree.TryTree;
import com.sun.source.tree.TypeCastTree;
import com.sun.source.tree.VariableTree;
import com.sun.source.tree.WhileLoopTree;
import com.sun.source.util.JavacTask;
import com.sun.source.util.SourcePositions;
import com.sun.source.util.TreeScanner;
import com.sun.source.util.Trees;
import java.io.File;
import java.io.IOException;
import java.util.ArrayList;
import java.util.HashMap;
import java.util.HashSet;
import java.util.List;
import java.util.Map;
import java.util.Set;
import java.util.TreeMap;
import javax.lang.model.element.Modifier;
import javax.tools.JavaCompiler;
import javax.tools.StandardJavaFileManager;
import javax.tools.ToolProvider;

/** The rules of LANGUAGE.md that can be read off the source of RingInSand, and the document's face. */
public final class LanguageTest {
    private static final File SOURCE = new File("src/main/java/RingInSand.java");

    private static final String[] FACE = {
        "int set(int,int,int)", "int told(int,int)", "int looker(int,int)", "int asks(int,int,int)", "int feed(int)",
        "int text()", "int force(int)", "int look(int,int)", "int next(int)", "int plan(int,int)", "int planned(int)",
        "int search()", "int giveUp(int)", "long likely(int,int)", "long here(int)", "int most(int)", "int under(int)",
        "int drowned(int)", "int seen(int,int)", "int crowd(int,int,int)", "int judge(int)", "long found(int,int)",
        "int drawn(int)", "int foundBy(int,int)", "int image()", "int back()", "int count(int)", "int sheet(int,int,int)",
        "int cell(int,int,int)", "int copy(int,int,int,int,int)", "int lookers(int,int,int,int)", "int taken(int,int)",
    };

    public static void main(String[] args) throws IOException {
        face();
        JavaCompiler compiler = ToolProvider.getSystemJavaCompiler();
        StandardJavaFileManager files = compiler.getStandardFileManager(null, null, null);
        JavacTask task = (JavacTask) compiler.getTask(null, files, null, List.of(), null,
                files.getJavaFileObjects(SOURCE));
        for (CompilationUnitTree unit : task.parse()) {
            Due.holds("no package line", unit.getPackageName() == null);
            Due.is("classes on top", unit.getTypeDecls().size(), 1);
            new Rules(unit, Trees.instance(task).getSourcePositions()).judge();
        }
        files.close();
        Due.end("LanguageTest");
    }

    private static void face() {
        Set<String> due = new HashSet<>(List.of(FACE));
        Due.is("methods of the face", due.size(), 32);
        Set<String> isThere = new HashSet<>();
        for (java.lang.reflect.Method m : RingInSand.class.getDeclaredMethods()) {
            int mod = m.getModifiers();
            if (java.lang.reflect.Modifier.isPublic(mod)) {
                StringBuilder s = new StringBuilder(m.getReturnType() + " " + m.getName() + "(");
                for (Class<?> p : m.getParameterTypes()) {
                    s.append(s.charAt(s.length() - 1) == '(' ? "" : ",").append(p);
                }
                isThere.add(s.append(")").toString());
                Due.holds(m + " is not static", !java.lang.reflect.Modifier.isStatic(mod));
            } else {
                Due.holds(m + " is private", java.lang.reflect.Modifier.isPrivate(mod) || m.isSynthetic());
            }
        }
        Due.holds("the face is that of the document: " + isThere, isThere.equals(due));
        Due.holds("public and final", java.lang.reflect.Modifier.isFinal(RingInSand.class.getModifiers())
                && java.lang.reflect.Modifier.isPublic(RingInSand.class.getModifiers()));
        Due.is("constructors", RingInSand.class.getDeclaredConstructors().length, 1);
        Set<String> constants = new HashSet<>();
        for (java.lang.reflect.Field f : RingInSand.class.getDeclaredFields()) {
            if (java.lang.reflect.Modifier.isPublic(f.getModifiers())) {
                constants.add(f.getType() + " " + f.getName());
            } else {
                Due.holds(f + " is private", java.lang.reflect.Modifier.isPrivate(f.getModifiers()));
            }
        }
        Due.holds("the constants: " + constants,
                constants.equals(Set.of("int NONE", "int BAD", "int STATE", "int FULL", "long NO")));
    }

    private static final class Rules extends TreeScanner<Void, Void> {
        private static final Set<String> IMPORTS = Set.of("java.util.Arrays", "java.util.ArrayList", "java.util.List");
        private static final Set<String> LIBRARY = Set.of("Math.max", "Math.min", "Math.abs", "System.arraycopy",
                "Arrays.fill", "Arrays.copyOf", "Arrays.copyOfRange");
        private static final Set<String> NAMES = Set.of("set", "told", "looker", "asks", "feed", "text", "force", "look",
                "next", "plan", "planned", "search", "giveUp", "likely", "here", "most", "under", "drowned", "seen",
                "crowd", "judge", "found", "drawn", "foundBy", "image", "back", "count", "sheet", "cell", "copy",
                "lookers", "taken");

        private final CompilationUnitTree unit;
        private final SourcePositions positions;
        private final List<ClassTree> classes = new ArrayList<>();
        private final Map<String, Set<String>> calls = new TreeMap<>();
        private final Set<String> methods = new HashSet<>();
        private String method = "";
        private int loops = 0;

        Rules(CompilationUnitTree unit, SourcePositions positions) {
            this.unit = unit;
            this.positions = positions;
        }

        void judge() {
            scan(unit, null);
            Due.holds("twelve classes at most, not " + classes.size(), classes.size() <= 12);
            for (String own : methods) {
                calls.computeIfAbsent(own, k -> new HashSet<>()).retainAll(methods);
            }
            Map<String, Set<String>> reach = reaches();
            for (String from : calls.keySet()) {
                int deep = depth(from, reach, new HashMap<>());
                Due.holds("calls below " + from + " go eight deep at most, not " + deep, deep <= 8);
            }
        }

        /** Methods that call one another again count as one. */
        private int depth(String from, Map<String, Set<String>> reach, Map<String, Integer> known) {
            if (known.containsKey(from)) {
                return known.get(from);
            }
            known.put(from, 1);
            int deepest = 0;
            boolean isRecursion = reach.get(from).contains(from);
            Set<String> group = new HashSet<>(Set.of(from));
            for (String other : reach.get(from)) {
                if (isRecursion && reach.get(other).contains(from)) {
                    group.add(other);
                }
            }
            for (String member : group) {
                for (String callee : calls.get(member)) {
                    if (!group.contains(callee)) {
                        deepest = Math.max(deepest, depth(callee, reach, known));
                    }
                }
            }
            known.put(from, deepest + 1);
            return deepest + 1;
        }

        private Map<String, Set<String>> reaches() {
            Map<String, Set<String>> reach = new HashMap<>();
            for (String from : calls.keySet()) {
                Set<String> seen = new HashSet<>();
                List<String> open = new ArrayList<>(calls.get(from));
                while (!open.isEmpty()) {
                    String to = open.remove(open.size() - 1);
                    if (seen.add(to)) {
                        open.addAll(calls.getOrDefault(to, Set.of()));
                    }
                }
                reach.put(from, seen);
            }
            return reach;
        }

        private long line(Tree t) {
            return unit.getLineMap().getLineNumber(positions.getStartPosition(unit, t));
        }

        private void no(String what, Tree t) {
            Due.holds("line " + line(t) + ": no " + what, false);
        }

        @Override
        public Void visitImport(ImportTree t, Void v) {
            Due.holds("import " + t.getQualifiedIdentifier(), IMPORTS.contains(t.getQualifiedIdentifier().toString()));
            return null;
        }

        @Override
        public Void visitClass(ClassTree t, Void v) {
            if (!classes.isEmpty()) {
                Due.holds(t.getSimpleName() + " is static", t.getModifiers().getFlags().contains(Modifier.STATIC));
                Due.holds(t.getSimpleName() + " is not public",
                        !t.getModifiers().getFlags().contains(Modifier.PUBLIC)
                        && !t.getModifiers().getFlags().contains(Modifier.PROTECTED));
            }
            classes.add(t);
            int fields = 0;
            for (Tree member : t.getMembers()) {
                Due.holds("line " + line(member) + ": no block", member.getKind() != Tree.Kind.BLOCK);
                if (member instanceof VariableTree field) {
                    boolean isStatic = field.getModifiers().getFlags().contains(Modifier.STATIC);
                    boolean isFinal = field.getModifiers().getFlags().contains(Modifier.FINAL);
                    Due.holds("line " + line(field) + ": what is static is final", !isStatic || isFinal);
                    fields += isStatic ? 0 : 1;
                }
            }
            Due.holds(t.getSimpleName() + " has twenty fields at most", fields <= 20);
            return super.visitClass(t, v);
        }

        @Override
        public Void visitMethod(MethodTree t, Void v) {
            String name = t.getName().toString();
            long from = line(t);
            long to = unit.getLineMap().getLineNumber(positions.getEndPosition(unit, t));
            Due.holds(name + " has seven parameters at most", t.getParameters().size() <= 7);
            Due.holds(name + " has sixty lines at most", to - from < 60);
            boolean isPublic = t.getModifiers().getFlags().contains(Modifier.PUBLIC);
            Due.holds("line " + from + ": " + name + " has a name of its own", isPublic || !NAMES.contains(name));
            Due.holds(name + " throws nothing", t.getThrows().isEmpty());
            String outer = method;
            method = name;
            methods.add(name);
            super.visitMethod(t, v);
            method = outer;
            return null;
        }

        @Override
        public Void visitMethodInvocation(MethodInvocationTree t, Void v) {
            String called = t.getMethodSelect().toString();
            String name = called.substring(called.lastIndexOf('.') + 1);
            String owner = called.contains(".") ? called.substring(0, called.lastIndexOf('.')) : "";
            boolean isLibrary = owner.equals("Math") || owner.equals("Arrays") || owner.equals("System")
                    || owner.equals("Integer") || owner.equals("Long");
            Due.holds("line " + line(t) + ": " + called + " is of the library's list", !isLibrary || LIBRARY.contains(called));
            // a KIND calls what it is under: that is no recursion
            if (!owner.equals("super") && !isLibrary && !name.equals("super")) {
                calls.computeIfAbsent(method, k -> new HashSet<>()).add(name);
            }
            return super.visitMethodInvocation(t, v);
        }

        @Override
        public Void visitIdentifier(IdentifierTree t, Void v) {
            Set<String> ruledOut = Set.of("Object", "Random", "Thread", "Runtime", "Throwable", "Exception", "Override",
                    "Iterable", "Optional", "Map", "HashMap", "Set");
            Due.holds("line " + line(t) + ": no " + t.getName(), !ruledOut.contains(t.getName().toString()));
            return super.visitIdentifier(t, v);
        }

        @Override
        public Void visitForLoop(ForLoopTree t, Void v) {
            loops++;
            String bound = String.valueOf(t.getCondition());
            Due.holds("line " + line(t) + ": a for counts against a bound", bound.contains("<") && t.getUpdate().size() == 1);
            return super.visitForLoop(t, v);
        }

        @Override
        public Void visitNewArray(NewArrayTree t, Void v) {
            Due.holds("line " + line(t) + ": an array in a call", method.isEmpty() || method.equals("<init>"));
            return super.visitNewArray(t, v);
        }

        @Override
        public Void visitNewClass(NewClassTree t, Void v) {
            Due.holds("line " + line(t) + ": no anonymous class", t.getClassBody() == null);
            Due.holds("line " + line(t) + ": an object in a call",
                    method.isEmpty() || method.equals("<init>") || method.equals("ofKind"));
            return super.visitNewClass(t, v);
        }

        @Override
        public Void visitBinary(BinaryTree t, Void v) {
            boolean divides = t.getKind() == Tree.Kind.DIVIDE || t.getKind() == Tree.Kind.REMAINDER;
            if (divides) {
                String below = t.getRightOperand().toString();
                Set<String> known = Set.of("2", "100", "COLUMNS", "HOURS", "MINUTES_OF_AN_HOUR",
                        // these are tested ahead of their lines
                        "divisor", "lesser", "minutes", "all");
                Due.holds("line " + line(t) + ": the divisor " + below, known.contains(below));
            }
            return super.visitBinary(t, v);
        }

        @Override
        public Void visitWhileLoop(WhileLoopTree t, Void v) {
            no("while, whose end could not be seen", t);
            return null;
        }

        @Override
        public Void visitDoWhileLoop(DoWhileLoopTree t, Void v) {
            no("do", t);
            return null;
        }

        @Override
        public Void visitEnhancedForLoop(EnhancedForLoopTree t, Void v) {
            no("for over a list", t);
            return null;
        }

        @Override
        public Void visitTypeCast(TypeCastTree t, Void v) {
            String type = t.getType().toString();
            Due.holds("line " + line(t) + ": a cast to " + type, Set.of("byte", "short", "int", "long", "char").contains(type));
            return super.visitTypeCast(t, v);
        }

        @Override
        public Void visitThrow(ThrowTree t, Void v) {
            no("throw", t);
            return null;
        }

        @Override
        public Void visitTry(TryTree t, Void v) {
            no("try", t);
            return null;
        }

        @Override
        public Void visitSynchronized(SynchronizedTree t, Void v) {
            no("synchronized", t);
            return null;
        }

        @Override
        public Void visitAssert(AssertTree t, Void v) {
            no("assert", t);
            return null;
        }

        @Override
        public Void visitLambdaExpression(LambdaExpressionTree t, Void v) {
            no("lambda", t);
            return null;
        }

        @Override
        public Void visitMemberReference(MemberReferenceTree t, Void v) {
            no("method reference", t);
            return null;
        }

        @Override
        public Void visitAnnotation(AnnotationTree t, Void v) {
            no("annotation", t);
            return null;
        }

        @Override
        public Void visitMemberSelect(MemberSelectTree t, Void v) {
            Due.holds("line " + line(t) + ": no " + t, !t.toString().startsWith("java.") && !t.getIdentifier().contentEquals("class"));
            return super.visitMemberSelect(t, v);
        }
    }
}
