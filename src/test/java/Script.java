import java.lang.reflect.Method;
import java.util.ArrayList;
import java.util.HashMap;
import java.util.List;
import java.util.Map;

/**
 * Runs rows of calls on a new MirrorMaze and compares each answer with the one that is due.
 * A row is "call arguments = answer"; an answer may be a finding's name. Rows are parted by lines or
 * by ';', and text behind # is left out.
 * Behind the last row the maze must have counted all of these findings.
 */
final class Script {
    private static final Map<String, Integer> FINDINGS = Map.of(
            "BEYOND", -100001, "MISSING", -100002, "SIZE", -100003, "KIND", -100004,
            "FULL", -100005, "NONE", -100006, "TAKEN", -100007);
    private static final Map<String, Method> CALLS = callsOf(MirrorMaze.class);
    /** What an object answers behind these is free, so no test may ask it. */
    static final int MOST_CALLS = 512;
    private static int rows = 0;
    private static int wrong = 0;

    private Script() {
    }

    static void run(String name, String text) {
        MirrorMaze maze = new MirrorMaze();
        int number = 0;
        int findings = 0;
        for (String row : rowsOf(text)) {
            number++;
            String[] sides = row.split("=");
            if (sides.length != 2) {
                throw new IllegalArgumentException("not a row: " + row);
            }
            int answer = answerOf(sides[1].trim());
            findings += answer < -99999 ? 1 : 0;
            due(name + ", row " + number, row, call(CALLS, maze, sides[0].trim()), answer);
        }
        due(name, "all 5 behind the last row", maze.all(5), findings);
        if (number >= MOST_CALLS) {
            throw new IllegalArgumentException("too many calls: " + name);
        }
    }

    static List<String> rowsOf(String text) {
        List<String> list = new ArrayList<>();
        for (String row : text.replaceAll("#[^\n]*", "").split("[\n;]")) {
            if (!row.isBlank()) {
                list.add(row.trim());
            }
        }
        return list;
    }

    static int call(MirrorMaze maze, String text) {
        return call(CALLS, maze, text);
    }

    static void due(String where, String what, long got, long want) {
        rows++;
        if (got != want) {
            wrong++;
            System.out.println(where + ": " + what + ": answered " + got + ", due is " + want);
        }
    }

    static void end(String test) {
        System.out.println(test + ": " + rows + " answers, " + wrong + " not as due");
        if (wrong != 0 || rows == 0) {
            System.exit(1);
        }
    }

    static Map<String, Method> callsOf(Class<?> type) {
        Map<String, Method> calls = new HashMap<>();
        for (Method method : type.getDeclaredMethods()) {
            if (method.getReturnType() == int.class) {
                calls.put(method.getName(), method);
            }
        }
        return calls;
    }

    static int call(Map<String, Method> calls, Object target, String text) {
        String[] words = text.split(" +");
        Method method = calls.get(words[0]);
        if (method == null || method.getParameterCount() != words.length - 1) {
            throw new IllegalArgumentException("no such call: " + text);
        }
        Object[] values = new Object[words.length - 1];
        for (int i = 0; i < values.length; i++) {
            boolean isNumber = method.getParameterTypes()[i] == int.class;
            values[i] = isNumber ? (Object) Integer.valueOf(words[i + 1]) : (Object) Boolean.valueOf(words[i + 1]);
        }
        try {
            return (Integer) method.invoke(target, values);
        } catch (ReflectiveOperationException e) {
            throw new IllegalStateException(text, e);
        }
    }

    static int answerOf(String text) {
        Integer finding = FINDINGS.get(text);
        return finding != null ? finding : Integer.parseInt(text);
    }
}
