import com.sun.source.tree.AssertTree;
import com.sun.source.tree.BinaryTree;
import com.sun.source.tree.BlockTree;
import com.sun.source.tree.CaseTree;
import com.sun.source.tree.ClassTree;
import com.sun.source.tree.CompilationUnitTree;
import com.sun.source.tree.CompoundAssignmentTree;
import com.sun.source.tree.InstanceOfTree;
import com.sun.source.tree.LambdaExpressionTree;
import com.sun.source.tree.MemberReferenceTree;
import com.sun.source.tree.MethodInvocationTree;
import com.sun.source.tree.MethodTree;
import com.sun.source.tree.NewArrayTree;
import com.sun.source.tree.NewClassTree;
import com.sun.source.tree.SwitchExpressionTree;
import com.sun.source.tree.SwitchTree;
import com.sun.source.tree.SynchronizedTree;
import com.sun.source.tree.ThrowTree;
import com.sun.source.tree.Tree;
import com.sun.source.tree.TryTree;
import com.sun.source.tree.TypeCastTree;
import com.sun.source.tree.VariableTree;
import com.sun.source.util.JavacTask;
import com.sun.source.util.TreePath;
import com.sun.source.util.TreePathScanner;
import com.sun.source.util.Trees;
import java.io.File;
import java.io.IOException;
import java.lang.reflect.Array;
import java.lang.reflect.Field;
import java.util.ArrayList;
import java.util.Collections;
import java.util.HashMap;
import java.util.HashSet;
import java.util.IdentityHashMap;
import java.util.List;
import java.util.Map;
import java.util.Set;
import java.util.TreeSet;
import javax.lang.model.element.Element;
import javax.lang.model.element.Modifier;
import javax.lang.model.type.TypeKind;
import javax.lang.model.type.TypeMirror;
import javax.tools.JavaCompiler;
import javax.tools.JavaFileObject;
import javax.tools.StandardJavaFileManager;
import javax.tools.ToolProvider;

/**
 * The rules of LANGUAGE.md that a program can check, and in their narrow form: what the class uses today is
 * allowed, and what it doesn't use is reported, also where the rules would leave it.
 */
public final class LanguageTest {
    private static final String SOURCE = "src/main/java/PlumbShaft.java";
    private static final int MOST_PARAMETERS = 7;
    private static final int MOST_LINES = 60;
    private static final int MOST_CLASSES = 12;
    private static final int MOST_FIELDS = 20;
    private static final int DEEPEST_CALLS = 7;
    private static final int MOST_CALLS = 512;
    private static final int ROOM_OBJECTS = 600_000;
    private static final int ROOM_ELEMENTS = 7_300_000;
    private static final Set<String> LIBRARY = Set.of("Math.abs(int)", "Math.abs(long)", "Math.max(int,int)",
            "Math.min(int,int)", "Math.floorDiv(int,int)", "Math.floorDiv(long,long)", "Math.floorMod(long,long)",
            "String.length()", "String.charAt(int)");
    private static final Set<String> SIMPLE_TYPES = Set.of("int", "long", "char", "boolean", "int[]", "char[]",
            "boolean[]", "void", "String");

    private static int wrong = 0;

    private static void fail(String rule, String what) {
        wrong++;
        System.out.println("rule " + rule + ": " + what);
    }

    /** Walks over the whole file, and collects which method calls which. */
    private static final class Rules extends TreePathScanner<Void, Void> {
        private final Trees trees;
        private final CompilationUnitTree unit;
        private final Set<String> publicMethods = new HashSet<>();
        private final Set<String> privateMethods = new HashSet<>();
        private final Map<String, Set<String>> calls = new HashMap<>();
        private int classes = 0;
        private String method = "";

        Rules(Trees trees, CompilationUnitTree unit) {
            this.trees = trees;
            this.unit = unit;
        }

        private Element elementOf(Tree tree) {
            return trees.getElement(TreePath.getPath(unit, tree));
        }

        private TypeMirror typeOf(Tree tree) {
            return trees.getTypeMirror(TreePath.getPath(unit, tree));
        }

        private long lineOf(long position) {
            return unit.getLineMap().getLineNumber(position);
        }

        private String at(Tree tree) {
            return "line " + lineOf(trees.getSourcePositions().getStartPosition(unit, tree));
        }

        private static String nameOf(Element member) {
            return member.getEnclosingElement().getSimpleName() + "." + member;
        }

        @Override
        public Void visitClass(ClassTree tree, Void nothing) {
            classes++;
            boolean isInside = getCurrentPath().getParentPath().getLeaf() != unit;
            Set<Modifier> modifiers = tree.getModifiers().getFlags();
            if (isInside && !(modifiers.contains(Modifier.STATIC) && modifiers.contains(Modifier.PRIVATE))) {
                fail("2", at(tree) + ": the class inside is not private and static");
            }
            int fields = 0;
            for (Tree member : tree.getMembers()) {
                if (member instanceof BlockTree) {
                    fail("5", at(member) + ": an initialiser block");
                }
                if (member instanceof VariableTree) {
                    Set<Modifier> flags = ((VariableTree) member).getModifiers().getFlags();
                    fields += flags.contains(Modifier.STATIC) ? 0 : 1;
                    if (flags.contains(Modifier.STATIC) && !flags.contains(Modifier.FINAL)) {
                        fail("5", at(member) + ": a static field that is not final");
                    }
                    if (!isInside && !flags.contains(Modifier.PRIVATE) && !flags.contains(Modifier.PUBLIC)) {
                        fail("1", at(member) + ": a package-visible field");
                    }
                }
                if (member instanceof MethodTree && !isInside) {
                    checkFace((MethodTree) member);
                }
            }
            if (fields > MOST_FIELDS) {
                fail("11", at(tree) + ": " + fields + " fields");
            }
            return super.visitClass(tree, nothing);
        }

        private void checkFace(MethodTree tree) {
            Set<Modifier> flags = tree.getModifiers().getFlags();
            if (flags.contains(Modifier.PUBLIC)) {
                publicMethods.add(tree.getName().toString());
            } else if (flags.contains(Modifier.PRIVATE)) {
                privateMethods.add(tree.getName().toString());
            } else {
                fail("1", at(tree) + ": a package-visible method");
            }
        }

        @Override
        public Void visitMethod(MethodTree tree, Void nothing) {
            Element element = elementOf(tree);
            if (tree.getParameters().size() > MOST_PARAMETERS) {
                fail("11", at(tree) + ": too many parameters");
            }
            long start = lineOf(trees.getSourcePositions().getStartPosition(unit, tree));
            long end = lineOf(trees.getSourcePositions().getEndPosition(unit, tree));
            if (end - start + 1 > MOST_LINES) {
                fail("11", at(tree) + ": too many lines");
            }
            String outer = method;
            method = nameOf(element);
            calls.putIfAbsent(method, new TreeSet<>());
            super.visitMethod(tree, nothing);
            method = outer;
            return null;
        }

        @Override
        public Void visitVariable(VariableTree tree, Void nothing) {
            String type = typeOf(tree).toString();
            boolean own = type.startsWith("PlumbShaft.");
            if (!own && !SIMPLE_TYPES.contains(type.replace("java.lang.", ""))) {
                fail("3", at(tree) + ": the type " + type);
            }
            return super.visitVariable(tree, nothing);
        }

        @Override
        public Void visitMethodInvocation(MethodInvocationTree tree, Void nothing) {
            Element called = elementOf(tree.getMethodSelect());
            String name = nameOf(called);
            boolean isSuper = tree.getMethodSelect().toString().equals("super");
            if (!isSuper) {
                calls.get(method).add(name);
                if (!called.getEnclosingElement().toString().startsWith("PlumbShaft") && !LIBRARY.contains(name)) {
                    fail("4", at(tree) + ": " + name);
                }
            }
            return super.visitMethodInvocation(tree, nothing);
        }

        @Override
        public Void visitNewClass(NewClassTree tree, Void nothing) {
            if (tree.getClassBody() != null) {
                fail("2", at(tree) + ": an anonymous class");
            }
            if (!typeOf(tree).toString().startsWith("PlumbShaft.")) {
                fail("4", at(tree) + ": new " + typeOf(tree));
            }
            calls.get(method).add(nameOf(elementOf(tree)));
            return super.visitNewClass(tree, nothing);
        }

        @Override
        public Void visitNewArray(NewArrayTree tree, Void nothing) {
            if (!method.isEmpty() && !isConstructor()) {
                fail("12", at(tree) + ": an array that is not made in a constructor");
            }
            return super.visitNewArray(tree, nothing);
        }

        private boolean isConstructor() {
            String name = method.substring(method.indexOf('.') + 1, method.indexOf('('));
            return method.startsWith(name + ".");
        }

        @Override
        public Void visitBinary(BinaryTree tree, Void nothing) {
            checkText(tree, typeOf(tree));
            boolean comparesTexts = isText(typeOf(tree.getLeftOperand())) || isText(typeOf(tree.getRightOperand()));
            if (comparesTexts) {
                fail("6", at(tree) + ": an operator on a String");
            }
            return super.visitBinary(tree, nothing);
        }

        @Override
        public Void visitCompoundAssignment(CompoundAssignmentTree tree, Void nothing) {
            checkText(tree, typeOf(tree));
            return super.visitCompoundAssignment(tree, nothing);
        }

        private static boolean isText(TypeMirror type) {
            return type.toString().equals("java.lang.String");
        }

        private void checkText(Tree tree, TypeMirror type) {
            if (isText(type)) {
                fail("10", at(tree) + ": texts joined by +");
            }
            if (type.getKind() == TypeKind.DOUBLE || type.getKind() == TypeKind.FLOAT) {
                fail("3", at(tree) + ": a double");
            }
        }

        @Override
        public Void visitTypeCast(TypeCastTree tree, Void nothing) {
            if (!typeOf(tree).getKind().isPrimitive()) {
                fail("6", at(tree) + ": a cast to a class");
            }
            return super.visitTypeCast(tree, nothing);
        }

        @Override
        public Void visitSwitch(SwitchTree tree, Void nothing) {
            TypeKind kind = typeOf(tree.getExpression()).getKind();
            if (kind != TypeKind.INT && kind != TypeKind.CHAR) {
                fail("10", at(tree) + ": a switch on a " + kind);
            }
            return super.visitSwitch(tree, nothing);
        }

        @Override
        public Void visitCase(CaseTree tree, Void nothing) {
            if (tree.getCaseKind() != CaseTree.CaseKind.STATEMENT) {
                fail("10", at(tree) + ": a case with an arrow");
            }
            return super.visitCase(tree, nothing);
        }

        @Override
        public Void visitSwitchExpression(SwitchExpressionTree tree, Void nothing) {
            fail("10", at(tree) + ": a switch expression");
            return null;
        }

        @Override
        public Void visitThrow(ThrowTree tree, Void nothing) {
            fail("6", at(tree) + ": throw");
            return null;
        }

        @Override
        public Void visitTry(TryTree tree, Void nothing) {
            fail("6", at(tree) + ": try");
            return null;
        }

        @Override
        public Void visitSynchronized(SynchronizedTree tree, Void nothing) {
            fail("6", at(tree) + ": synchronized");
            return null;
        }

        @Override
        public Void visitAssert(AssertTree tree, Void nothing) {
            fail("6", at(tree) + ": assert");
            return null;
        }

        @Override
        public Void visitInstanceOf(InstanceOfTree tree, Void nothing) {
            fail("6", at(tree) + ": instanceof");
            return null;
        }

        @Override
        public Void visitLambdaExpression(LambdaExpressionTree tree, Void nothing) {
            fail("2", at(tree) + ": a lambda");
            return null;
        }

        @Override
        public Void visitMemberReference(MemberReferenceTree tree, Void nothing) {
            fail("2", at(tree) + ": a method reference");
            return null;
        }

        /** How many calls stand open at once below this one, itself too; a recursion is reported. */
        private int depthOf(String name, Set<String> open) {
            if (!open.add(name)) {
                fail("8", "the recursion of " + name);
                return 0;
            }
            int deepest = 0;
            for (String called : calls.getOrDefault(name, Set.of())) {
                deepest = Math.max(deepest, depthOf(called, open));
            }
            open.remove(name);
            return calls.containsKey(name) ? 1 + deepest : 0;
        }

        private void checkCalls() {
            for (String name : calls.keySet()) {
                int depth = depthOf(name, new HashSet<>());
                if (depth > DEEPEST_CALLS) {
                    fail("11", name + " goes " + depth + " calls deep");
                }
            }
            for (String name : privateMethods) {
                if (publicMethods.contains(name)) {
                    fail("1", "a private method bears the name of a public one: " + name);
                }
            }
            if (classes > MOST_CLASSES) {
                fail("11", classes + " classes");
            }
        }
    }

    private static void checkSource() throws IOException {
        JavaCompiler compiler = ToolProvider.getSystemJavaCompiler();
        StandardJavaFileManager files = compiler.getStandardFileManager(null, null, null);
        Iterable<? extends JavaFileObject> sources = files.getJavaFileObjects(new File(SOURCE));
        JavacTask task = (JavacTask) compiler.getTask(null, files, null, List.of("-proc:none"), null, sources);
        Iterable<? extends CompilationUnitTree> units = task.parse();
        task.analyze();
        for (CompilationUnitTree unit : units) {
            if (unit.getPackageName() != null || !unit.getImports().isEmpty()) {
                fail("4", "a package line or an import");
            }
            if (unit.getTypeDecls().size() != 1) {
                fail("1", "more than one class beside another");
            }
            Rules rules = new Rules(Trees.instance(task), unit);
            rules.scan(unit, null);
            rules.checkCalls();
        }
        files.close();
    }

    /** Counts the objects that can be reached, and their fields and elements. */
    private static int[] room(Object object, Set<Object> seen) throws IllegalAccessException {
        if (object == null || !seen.add(object)) {
            return new int[2];
        }
        int[] sum = {1, 0};
        List<Object> parts = new ArrayList<>();
        Class<?> type = object.getClass();
        if (type.isArray()) {
            sum[1] = Array.getLength(object);
            for (int i = 0; i < sum[1] && !type.getComponentType().isPrimitive(); i++) {
                parts.add(Array.get(object, i));
            }
        } else {
            for (Field field : type.getDeclaredFields()) {
                if (!java.lang.reflect.Modifier.isStatic(field.getModifiers())) {
                    sum[1]++;
                    field.setAccessible(true);
                    if (!field.getType().isPrimitive()) {
                        parts.add(field.get(object));
                    }
                }
            }
        }
        for (Object part : parts) {
            int[] of = room(part, seen);
            sum[0] += of[0];
            sum[1] += of[1];
        }
        return sum;
    }

    /** An observation makes two objects of four fields each, and a text holds six orders to look at the most. */
    private static void checkRoom() throws IllegalAccessException {
        int[] room = room(new PlumbShaft(), Collections.newSetFromMap(new IdentityHashMap<>()));
        int objects = room[0] + MOST_CALLS * 6 * 2;
        int elements = room[1] + MOST_CALLS * 6 * 2 * 4;
        if (objects > ROOM_OBJECTS / 20 || elements > ROOM_ELEMENTS / 20) {
            fail("12", objects + " objects, " + elements + " fields and elements");
        }
    }

    public static void main(String[] args) throws IOException, IllegalAccessException {
        checkSource();
        checkRoom();
        System.out.println(wrong == 0 ? "the language is as due" : wrong + " parts of the language are not as due");
        if (wrong != 0) {
            System.exit(1);
        }
    }
}
