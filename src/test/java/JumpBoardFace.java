import java.lang.reflect.Constructor;
import java.lang.reflect.Field;
import java.lang.reflect.Method;
import java.lang.reflect.Modifier;
import java.util.Arrays;
import java.util.HashSet;
import java.util.Set;
import java.util.TreeSet;

/** The class shows the document's face, and nothing beside it (LANGUAGE.md, rules 1 and 5). */
public final class JumpBoardFace {
    private static final String[] METHODS = {
        "enter/1", "jump/3", "undo/1", "record/1", "limit/1", "value/3", "fits/5", "count/4", "turned/4", "longest/4",
        "skip/5", "pick/4", "best/1", "ahead/2", "place/1", "order/1", "verdict/2", "told/1"};

    private static int wrong = 0;

    public static void main(String[] args) {
        Class<?> board = JumpBoard.class;
        hold("the class is public and final", board.getModifiers() == (Modifier.PUBLIC | Modifier.FINAL));
        constructors(board);
        methods(board);
        fields(board);
        System.out.println(wrong == 0 ? "the face is as due" : wrong + " parts of the face are not as due");
        if (wrong != 0) {
            System.exit(1);
        }
    }

    private static void hold(String what, boolean holds) {
        if (!holds) {
            wrong++;
            System.out.println("does not hold: " + what);
        }
    }

    private static void constructors(Class<?> board) {
        Constructor<?>[] all = board.getDeclaredConstructors();
        hold("one constructor", all.length == 1);
        hold("it is public, without parameters",
            all[0].getModifiers() == Modifier.PUBLIC && all[0].getParameterCount() == 0);
    }

    private static void methods(Class<?> board) {
        Set<String> shown = new TreeSet<>();
        Set<String> shownNames = new HashSet<>();
        for (Method method : board.getDeclaredMethods()) {
            if (!Modifier.isPrivate(method.getModifiers())) {
                shown.add(method.getName() + "/" + method.getParameterCount());
                shownNames.add(method.getName());
                hold(method.getName() + " is public and no more", method.getModifiers() == Modifier.PUBLIC);
                hold(method.getName() + " answers int", method.getReturnType() == int.class);
                for (Class<?> parameter : method.getParameterTypes()) {
                    hold(method.getName() + " takes int", parameter == int.class);
                }
            }
        }
        Set<String> due = new TreeSet<>(Arrays.asList(METHODS));
        hold("the methods are " + due + ", not " + shown, shown.equals(due));
        for (Method method : board.getDeclaredMethods()) {
            hold("no private method is named " + method.getName(),
                !Modifier.isPrivate(method.getModifiers()) || !shownNames.contains(method.getName()));
        }
    }

    private static void fields(Class<?> board) {
        int constant = Modifier.PUBLIC | Modifier.STATIC | Modifier.FINAL;
        for (Field field : board.getDeclaredFields()) {
            int modifiers = field.getModifiers();
            if (field.getName().equals("REFUSED")) {
                hold("REFUSED is a constant of int", modifiers == constant && field.getType() == int.class);
            } else {
                hold(field.getName() + " is private", Modifier.isPrivate(modifiers));
            }
            hold(field.getName() + " is final if static", !Modifier.isStatic(modifiers) || Modifier.isFinal(modifiers));
        }
    }
}
