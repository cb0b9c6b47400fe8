import com.sun.source.tree.*;
import com.sun.source.util.*;
import java.io.File;
import java.lang.reflect.*;
import java.util.*;
import javax.lang.model.element.*;
import javax.tools.*;

/** The face of the document, and those rules of LANGUAGE.md that a compiler's tree of the source can tell. */
public final class LanguageTest {
    private static final String SOURCE = "src/main/java/RailBumpers.java";
    private static final Check CHECK = new Check();

    private static final String FACE = """
        int after(int)
        long at(int,int,int)
        long behind(int,int,int,int)
        int book(int,int)
        int bumper(int,int,int)
        int count(int)
        int event(int,int)
        int feed(int)
        int fits(int,int)
        int go(int)
        int image()
        int item(int,int,long)
        int judge(int,int)
        int looked()
        long mean(int)
        long odds(int,int)
        long of(int,int,int)
        int often(int)
        long peek(int,int)
        long push(int,int)
        int read()
        int renew(int,int,int)
        int see(int,int)
        int shift(int,int,int,int,int)
        int spring(int)
        int tape(int,int,int)
        long then(int,int)
        long time(int,int)
        int told(int)
        int undo()
        int wall(int,int)
        int where(int)
        """;

    private static final Set<String> LIBRARY = Set.of("java.lang.System.arraycopy", "java.util.Arrays.fill",
        "java.lang.Math.min", "java.lang.Math.max");

    private static String name(Class<?>[] types) {
        StringJoiner all = new StringJoiner(",", "(", ")");
        for (Class<?> type : types) {
            all.add(type.getSimpleName());
        }
        return all.toString();
    }

    private static void face() {
        CHECK.part("the face");
        Set<String> want = new TreeSet<>(List.of(FACE.trim().split("\\s*\n\\s*")));
        Set<String> got = new TreeSet<>();
        for (Method m : RailBumpers.class.getDeclaredMethods()) {
            if (!java.lang.reflect.Modifier.isPrivate(m.getModifiers())) {
                CHECK.due(m.getName() + " is public", java.lang.reflect.Modifier.isPublic(m.getModifiers()));
                got.add(m.getReturnType().getSimpleName() + " " + m.getName() + name(m.getParameterTypes()));
            }
        }
        CHECK.due("methods " + got + " are " + want, want.equals(got));
        CHECK.due("public and final", RailBumpers.class.getModifiers()
            == (java.lang.reflect.Modifier.PUBLIC | java.lang.reflect.Modifier.FINAL));
        CHECK.due("one constructor", 1, RailBumpers.class.getDeclaredConstructors().length);
        CHECK.due("it is public and takes nothing", 1, RailBumpers.class.getConstructors().length);
        Set<String> constants = new TreeSet<>();
        for (Field f : RailBumpers.class.getDeclaredFields()) {
            if (!java.lang.reflect.Modifier.isPrivate(f.getModifiers())) {
                constants.add(f.getType() + " " + f.getName());
            }
        }
        CHECK.due("constants " + constants,
            constants.equals(Set.of("int NONE", "int BAD", "int STATE", "int FULL", "long NO")));
    }

    /** Looks at every part of the source; what calls what is kept, to find how deep calls go. */
    private static final class Look extends TreePathScanner<Void, Void> {
        final Map<Element, Set<Element>> calls = new LinkedHashMap<>();
        final Set<String> publicNames = new TreeSet<>();
        final List<String> privateNames = new ArrayList<>();
        int classes = 0;
        private final Trees trees;
        private final CompilationUnitTree unit;
        private Element method;
        private boolean inConstructor;

        Look(Trees trees, CompilationUnitTree unit) {
            this.trees = trees;
            this.unit = unit;
        }

        private Element element() {
            return trees.getElement(getCurrentPath());
        }

        private long line(long position) {
            return unit.getLineMap().getLineNumber(position);
        }

        private void refuse(Tree tree) {
            long line = line(trees.getSourcePositions().getStartPosition(unit, tree));
            CHECK.due("no " + tree.getKind() + " (line " + line + ")", false);
        }

        @Override
        public Void visitClass(ClassTree tree, Void v) {
            classes++;
            Element e = element();
            boolean isOuter = e.getEnclosingElement().getKind() == ElementKind.PACKAGE;
            Set<javax.lang.model.element.Modifier> modifiers = e.getModifiers();
            if (!isOuter) {
                CHECK.due(e + " is static", modifiers.contains(javax.lang.model.element.Modifier.STATIC));
                CHECK.due(e + " is not public", !modifiers.contains(javax.lang.model.element.Modifier.PUBLIC));
            }
            int fields = 0;
            for (Element member : e.getEnclosedElements()) {
                boolean isStatic = member.getModifiers().contains(javax.lang.model.element.Modifier.STATIC);
                if (member.getKind() == ElementKind.FIELD && !isStatic) {
                    fields++;
                }
                if (member.getKind() == ElementKind.FIELD && isStatic) {
                    CHECK.due(member + " is a constant", ((VariableElement) member).getConstantValue() != null);
                }
            }
            CHECK.due(e + " has few fields", fields <= 20);
            return super.visitClass(tree, v);
        }

        @Override
        public Void visitMethod(MethodTree tree, Void v) {
            method = element();
            inConstructor = method.getKind() == ElementKind.CONSTRUCTOR;
            calls.computeIfAbsent(method, e -> new LinkedHashSet<>());
            if (!inConstructor) {
                if (method.getModifiers().contains(javax.lang.model.element.Modifier.PUBLIC)) {
                    publicNames.add(method.getSimpleName().toString());
                } else {
                    privateNames.add(method.getSimpleName().toString());
                }
            }
            long first = trees.getSourcePositions().getStartPosition(unit, tree);
            long last = trees.getSourcePositions().getEndPosition(unit, tree);
            if (last > first) {
                CHECK.due(method + " is short", line(last) - line(first) < 60);
            }
            CHECK.due(method + " takes few parameters", tree.getParameters().size() <= 7);
            super.visitMethod(tree, v);
            method = null;
            return null;
        }

        private void called(Tree tree, Element callee) {
            String owner = callee.getEnclosingElement().toString();
            if (owner.startsWith("RailBumpers")) {
                if (method != null) {
                    calls.get(method).add(callee);
                }
            } else if (callee.getKind() != ElementKind.CONSTRUCTOR) {
                String full = owner + "." + callee.getSimpleName();
                CHECK.due(full + " is of the library that is left", LIBRARY.contains(full));
            }
        }

        @Override
        public Void visitMethodInvocation(MethodInvocationTree tree, Void v) {
            called(tree, element());
            return super.visitMethodInvocation(tree, v);
        }

        @Override
        public Void visitNewClass(NewClassTree tree, Void v) {
            CHECK.due("objects are made in constructors, not in " + method, inConstructor);
            CHECK.due("no body of its own", tree.getClassBody() == null);
            called(tree, element());
            return super.visitNewClass(tree, v);
        }

        @Override
        public Void visitNewArray(NewArrayTree tree, Void v) {
            CHECK.due("rows are made in constructors, not in " + method, inConstructor);
            return super.visitNewArray(tree, v);
        }

        @Override
        public Void visitThrow(ThrowTree tree, Void v) {
            refuse(tree);
            return null;
        }

        @Override
        public Void visitTry(TryTree tree, Void v) {
            refuse(tree);
            return null;
        }

        @Override
        public Void visitLambdaExpression(LambdaExpressionTree tree, Void v) {
            refuse(tree);
            return null;
        }

        @Override
        public Void visitMemberReference(MemberReferenceTree tree, Void v) {
            refuse(tree);
            return null;
        }

        @Override
        public Void visitSynchronized(SynchronizedTree tree, Void v) {
            refuse(tree);
            return null;
        }

        @Override
        public Void visitAssert(AssertTree tree, Void v) {
            refuse(tree);
            return null;
        }

        @Override
        public Void visitBlock(BlockTree tree, Void v) {
            CHECK.due("no static block", !tree.isStatic());
            return super.visitBlock(tree, v);
        }

        /** How many calls stand open at once from a method on, itself counted; without recursion. */
        int depth(Element from, Set<Element> open) {
            CHECK.due(from + " calls itself through no other", open.add(from));
            int deepest = 0;
            for (Element callee : calls.getOrDefault(from, Set.of())) {
                if (!open.contains(callee)) {
                    deepest = Math.max(deepest, depth(callee, open));
                } else {
                    CHECK.due(from + " is no recursion", false);
                }
            }
            open.remove(from);
            return deepest + 1;
        }
    }

    private static void source() throws Exception {
        CHECK.part("the source");
        JavaCompiler compiler = ToolProvider.getSystemJavaCompiler();
        try (StandardJavaFileManager files = compiler.getStandardFileManager(null, null, null)) {
            JavacTask task = (JavacTask) compiler.getTask(null, files, null, List.of("-proc:none"), null,
                files.getJavaFileObjects(new File(SOURCE)));
            CompilationUnitTree unit = task.parse().iterator().next();
            task.analyze();
            CHECK.due("no package", unit.getPackageName() == null);
            CHECK.due("one class in the file", 1, unit.getTypeDecls().size());
            for (ImportTree i : unit.getImports()) {
                CHECK.due(i.toString().trim(), i.getQualifiedIdentifier().toString().equals("java.util.Arrays"));
            }
            Look look = new Look(Trees.instance(task), unit);
            look.scan(unit, null);
            CHECK.due("few classes", look.classes <= 12);
            for (String name : look.privateNames) {
                CHECK.due("no public method is named " + name, !look.publicNames.contains(name));
            }
            for (Element e : look.calls.keySet()) {
                int depth = look.depth(e, new HashSet<>());
                CHECK.due("calls of " + e + " go " + depth + " deep, not more than 8", depth <= 8);
            }
        }
    }

    public static void main(String[] args) throws Exception {
        face();
        source();
        CHECK.end();
    }
}
