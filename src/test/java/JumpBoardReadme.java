import java.io.IOException;
import java.lang.reflect.Method;
import java.lang.reflect.Modifier;
import java.nio.file.Files;
import java.nio.file.Path;
import java.util.ArrayList;
import java.util.HashMap;
import java.util.List;
import java.util.Map;
import java.util.Set;
import java.util.TreeSet;
import java.util.regex.Matcher;
import java.util.regex.Pattern;

/** The example in README.md, line by line: each call answers what stands behind it, and every method has its call. */
public final class JumpBoardReadme {
    private static final String MAKES_THE_BOARD = "JumpBoard board = new JumpBoard();";
    private static final Pattern CALL = Pattern.compile(
        "(?:int (\\w+) = )?board\\.(\\w+)\\(([^()]*)\\); +// (-?\\d+|JumpBoard\\.REFUSED)(?:: .*)?");

    private static final Map<String, Method> methods = new HashMap<>();
    private static final Map<String, Integer> numbers = new HashMap<>();
    private static int wrong = 0;

    public static void main(String[] args) throws IOException, ReflectiveOperationException {
        for (Method method : JumpBoard.class.getDeclaredMethods()) {
            if (Modifier.isPublic(method.getModifiers())) {
                methods.put(method.getName(), method);
            }
        }
        numbers.put("JumpBoard.REFUSED", JumpBoard.REFUSED);
        List<String> lines = example(Files.readAllLines(Path.of("README.md")));
        play(lines);
        System.out.println(wrong == 0 ? "the example answers as README.md says" : wrong + " lines are not as due");
        if (wrong != 0) {
            System.exit(1);
        }
    }

    private static void hold(String what, boolean holds) {
        if (!holds) {
            wrong++;
            System.out.println("README.md: " + what);
        }
    }

    /** The lines of the one part of README.md that is marked as Java. */
    private static List<String> example(List<String> readme) {
        List<String> lines = new ArrayList<>();
        boolean inside = false;
        int parts = 0;
        for (String line : readme) {
            if (line.startsWith("```")) {
                inside = line.equals("```java");
                parts += inside ? 1 : 0;
            } else if (inside && !line.isBlank()) {
                lines.add(line);
            }
        }
        hold("there is one example, not " + parts, parts == 1);
        return lines;
    }

    private static void play(List<String> lines) throws ReflectiveOperationException {
        boolean isMade = !lines.isEmpty() && lines.get(0).equals(MAKES_THE_BOARD);
        hold("the example begins with " + MAKES_THE_BOARD, isMade);
        JumpBoard board = new JumpBoard();
        Set<String> called = new TreeSet<>();
        for (int i = 1; i < lines.size(); i++) {
            Matcher call = CALL.matcher(lines.get(i));
            boolean isCall = call.matches() && methods.containsKey(call.group(2));
            hold("no call with its answer: " + lines.get(i), isCall);
            if (isCall) {
                called.add(call.group(2));
                answer(board, call);
            }
        }
        hold("the example calls " + called + ", not all of " + methods.keySet(), called.equals(methods.keySet()));
    }

    private static void answer(JumpBoard board, Matcher call) throws ReflectiveOperationException {
        Method method = methods.get(call.group(2));
        String[] words = call.group(3).split(", ");
        boolean isWhole = words.length == method.getParameterCount();
        hold(call.group(2) + " takes " + method.getParameterCount() + " arguments: " + call.group(), isWhole);
        if (!isWhole) {
            return;
        }
        Object[] arguments = new Object[words.length];
        for (int i = 0; i < words.length; i++) {
            arguments[i] = number(words[i]);
        }
        int got = (Integer) method.invoke(board, arguments);
        hold("answered " + got + ": " + call.group(), got == number(call.group(4)));
        if (call.group(1) != null) {
            Integer before = numbers.put(call.group(1), got);
            hold(call.group(1) + " is there already: " + call.group(), before == null);
        }
    }

    private static int number(String word) {
        if (word.matches("-?\\d+")) {
            return Integer.parseInt(word);
        }
        hold("no number is named " + word, numbers.containsKey(word));
        return numbers.getOrDefault(word, 0);
    }
}
