import java.lang.reflect.Constructor;
import java.lang.reflect.Field;
import java.lang.reflect.Method;
import java.lang.reflect.Modifier;
import java.util.Arrays;
import java.util.HashSet;
import java.util.Set;
import java.util.TreeSet;

/** The class shows the document's face, all of it and nothing beside it (LANGUAGE.md, rules 1, 2 and 5). */
public final class JumpBoardFace {
    // The document's lines, so that both can be held side by side.
    private static final String[] DUE = {
        "public int enter(int bib);",
        "public int jump(int jumper, int mark, int wind);",
        "public int undo(int jumper);",
        "public int record(int mark);",
        "public int limit(int wind);",
        "public int value(int what, int jumper, int round);",
        "public int fits(int how, int what, int jumper, int a, int b);",
        "public int count(int how, int what, int jumper, int v);",
        "public int turned(int how, int what, int jumper, int v);",
        "public int longest(int how, int what, int jumper, int v);",
        "public int skip(int how, int what, int jumper, int from, int v);",
        "public int pick(int how, int what, int jumper, int v);",
        "public int best(int jumper);",
        "public int ahead(int a, int b);",
        "public int place(int jumper);",
        "public int order(int k);",
        "public int verdict(int jumper, int round);",
        "public int told(int what);"};

    private static final int CONSTANT = Modifier.PUBLIC | Modifier.STATIC | Modifier.FINAL;

    private static int wrong = 0;

    public static void main(String[] args) throws IllegalAccessException {
        Class<?> board = JumpBoard.class;
        theClass(board);
        constructors(board);
        methods(board);
        namesOfPrivateMethods(board);
        fields(board);
        System.out.println(wrong == 0 ? "the face is as due" : wrong + " parts of the face are not as due");
        if (wrong != 0) {
            System.exit(1);
        }
    }

    private static void hold(String what, boolean holds) {
        if (!holds) {
            wrong++;
            System.out.println("does not hold: " + what);
        }
    }

    private static void theClass(Class<?> board) {
        hold("the class is public and final", board.getModifiers() == (Modifier.PUBLIC | Modifier.FINAL));
        hold("it has no package", board.getPackageName().isEmpty());
        hold("it is an Object and nothing else",
            board.getSuperclass() == Object.class && board.getInterfaces().length == 0);
        hold("it has no type parameters", board.getTypeParameters().length == 0);
        for (Class<?> inside : board.getDeclaredClasses()) {
            int modifiers = inside.getModifiers();
            hold(inside.getName() + " is static, private or package-visible", Modifier.isStatic(modifiers)
                && !Modifier.isPublic(modifiers) && !Modifier.isProtected(modifiers));
        }
    }

    private static void constructors(Class<?> board) {
        Constructor<?>[] all = board.getDeclaredConstructors();
        hold("one constructor", all.length == 1);
        hold("it is public, takes nothing and throws nothing", all[0].getModifiers() == Modifier.PUBLIC
            && all[0].getParameterCount() == 0 && all[0].getExceptionTypes().length == 0);
    }

    /** A line of the document as reflection writes the method: without the names of what it takes. */
    private static String asShown(String line) {
        return line.replaceAll("int \\w+([,)])", "int$1").replace(", ", ",").replace(";", "")
            .replace("public int ", "public int JumpBoard.");
    }

    private static void methods(Class<?> board) {
        Set<String> due = new TreeSet<>();
        for (String line : DUE) {
            due.add(asShown(line));
        }
        Set<String> shown = new TreeSet<>();
        for (Method method : board.getDeclaredMethods()) {
            if (!Modifier.isPrivate(method.getModifiers())) {
                shown.add(method.toString());
            }
        }
        for (String method : due) {
            hold("there is " + method, shown.contains(method));
        }
        for (String method : shown) {
            hold("the document has no " + method, due.contains(method));
        }
    }

    private static void namesOfPrivateMethods(Class<?> board) {
        Set<String> shown = new HashSet<>();
        Arrays.stream(board.getDeclaredMethods()).filter(method -> !Modifier.isPrivate(method.getModifiers()))
            .forEach(method -> shown.add(method.getName()));
        for (Method method : board.getDeclaredMethods()) {
            hold("no private method is named " + method.getName(),
                !Modifier.isPrivate(method.getModifiers()) || !shown.contains(method.getName()));
        }
    }

    private static void fields(Class<?> board) throws IllegalAccessException {
        boolean isRefusedThere = false;
        for (Field field : board.getDeclaredFields()) {
            int modifiers = field.getModifiers();
            if (field.getName().equals("REFUSED")) {
                isRefusedThere = modifiers == CONSTANT && field.getType() == int.class && field.getInt(null) == -1000;
            } else {
                hold(field.getName() + " is private", Modifier.isPrivate(modifiers));
            }
            hold(field.getName() + " is final if static", !Modifier.isStatic(modifiers) || Modifier.isFinal(modifiers));
        }
        hold("REFUSED is a constant of int, -1000", isRefusedThere);
    }
}
