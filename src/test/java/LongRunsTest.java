import java.lang.reflect.Array;
import java.lang.reflect.Field;
import java.lang.reflect.Modifier;
import java.util.ArrayDeque;
import java.util.ArrayList;
import java.util.Collections;
import java.util.Deque;
import java.util.IdentityHashMap;
import java.util.List;
import java.util.Set;

/**
 * Objects used for all of their 512 calls. Rows inside an object are used again from call to call, so the
 * last answers must be those that a new object gives; and what an object holds must not grow.
 */
public final class LongRunsTest {
    /** HALVES part rays into many, TABLES are met by all of them. */
    private static final String HALVES = dense(2);
    private static final String MIRRORS = dense(1);
    private static final String DOORS = doors();
    /** Each call that only asks, F and G being any FIELD, W any WAY, N any small number. */
    private static final String[] ASKING = {
        "as F N", "at F N", "path F W", "step F W N", "closes F W", "spread F W true", "spread F W false", "sees F G",
        "seen F", "rings", "ring N true", "ring N false", "lit F", "bright N", "opened true", "opened false",
        "turns N F", "far F G", "first F G", "reach F", "visit F G", "all N"};

    public static void main(String[] args) {
        for (String setting : new String[] {HALVES, MIRRORS, DOORS, Probe.FURNISHED, Probe.NEW}) {
            lateAsEarly(setting);
            everyCallAlone(setting);
        }
        allDoorsInALongRun();
        undoneAndAnew();
        sheetsInALongRun();
        room();
        Script.end("LongRunsTest");
    }

    /** Every third FIELD or so has a mirror of this kind, ten TABLES stand among them, and 6 LAMPS. */
    private static String dense(int kind) {
        StringBuilder text = new StringBuilder();
        for (int lamp = 0; lamp < 6; lamp++) {
            text.append("lamp " + (lamp * 13 + 1) + " " + lamp % 4 + " " + lamp % 3 + "\n");
        }
        for (int i = 0; i < 10; i++) {
            text.append("thing " + (i * 7 + 4) + " 4 " + i % 2 + "\n");
        }
        for (int field = 0; field < 81; field += 3) {
            text.append("thing " + field + " " + kind + " " + field / 3 % 2 + "\n");
        }
        return text.toString();
    }

    /** A ray that winds over all FIELDS, DOOR behind DOOR, so that each opens in a ROUND of its own. */
    private static String doors() {
        StringBuilder text = new StringBuilder("lamp 0 0 1\n");
        for (int y = 0; y < 9; y++) {
            if (y < 8) {
                text.append("thing " + (9 * y + (y % 2 == 0 ? 8 : 0)) + " 1 " + (y % 2 == 0 ? 1 : 0) + "\n");
            }
            if (y > 0) {
                text.append("thing " + (9 * y + (y % 2 == 0 ? 0 : 8)) + " 1 " + (y % 2 == 0 ? 1 : 0) + "\n");
            }
            for (int x = 1; x < 8; x++) {
                text.append("thing " + (9 * y + x) + " 3 1\n");
            }
        }
        return text.toString();
    }

    private static String filled(String call, int i) {
        return call.replace("F", String.valueOf(i * 37 % 83 - 1)).replace("G", String.valueOf(i * 53 % 83 - 1))
                .replace("W", String.valueOf(i * 3 % 5)).replace("N", String.valueOf(i * 5 % 7));
    }

    /** All asking calls by turns, till no call is left; each is compared with the first call of a new object. */
    private static void lateAsEarly(String setting) {
        MirrorMaze maze = Edges.settled(setting);
        int findings = maze.all(5);
        int left = Script.MOST_CALLS - Script.rowsOf(setting).size() - 2;
        for (int i = 0; i < left; i++) {
            String call = filled(ASKING[i % ASKING.length], i);
            if (call.equals("all 5")) {
                call = "all 0";
            }
            int answer = Script.call(maze, call);
            findings += answer < -99999 ? 1 : 0;
            Script.due("call " + i + " of a long run", call, answer, Script.call(Edges.settled(setting), call));
        }
        Script.due("the last of a long run", "all 5", maze.all(5), findings);
    }

    /** One call again and again: the last answer is the first one. */
    private static void everyCallAlone(String setting) {
        for (String asking : ASKING) {
            String call = filled(asking, 9).equals("all 5") ? "all 4" : filled(asking, 9);
            MirrorMaze maze = Edges.settled(setting);
            int left = Script.MOST_CALLS - Script.rowsOf(setting).size();
            int first = Script.call(maze, call);
            int wrong = 0;
            for (int i = 1; i < left; i++) {
                wrong += Script.call(maze, call) == first ? 0 : 1;
            }
            Script.due("asked till no call is left", call, wrong, 0);
        }
    }

    private static void allDoorsInALongRun() {
        MirrorMaze maze = Edges.settled(DOORS);
        int made = Script.rowsOf(DOORS).size();
        while (made + 6 <= Script.MOST_CALLS) {
            Script.due("doors, again and again", "opened true", maze.opened(true), 63);
            Script.due("doors, again and again", "opened false", maze.opened(false), 63);
            Script.due("doors, again and again", "open", maze.open(), 63);
            Script.due("doors, again and again", "all 4", maze.all(4), 63);
            Script.due("doors, again and again", "bright 1", maze.bright(1), 81);
            Script.due("doors, again and again", "undo", maze.undo(), 19);
            made += 6;
        }
    }

    /** 20 acts are kept however often they were undone and done anew. */
    private static void undoneAndAnew() {
        MirrorMaze maze = new MirrorMaze();
        int made = 0;
        int things = 0;
        int kept = 0;
        while (made + 2 <= Script.MOST_CALLS) {
            if (made % 10 >= 6) {
                kept--;
                things--;
                Script.due("call " + made, "undo", maze.undo(), kept);
            } else {
                Script.due("call " + made, "thing", maze.thing(things, 1, 1), things + 1);
                kept = Math.min(20, kept + 1);
                things++;
            }
            Script.due("call " + made, "all 1", maze.all(1), things);
            made += 2;
        }
    }

    private static void sheetsInALongRun() {
        MirrorMaze maze = new MirrorMaze();
        for (int s = 0; s < 4; s++) {
            Script.due("sheets", "sheet", maze.sheet(s, 8, 30), 30);
        }
        int[] due = new int[120];
        for (int i = 0; i < 500; i++) {
            int s = i % 4;
            int place = i * 7 % 30;
            Script.due("sheets", "put", maze.put(s, place, i % 9), 0);
            due[30 * s + place] = i % 9;
        }
        int[] told = new int[9];
        int things = 0;
        for (int x = 0; x < 9; x++) {
            told[x] = due[90 + x];
            things += told[x] > 0 ? 1 : 0;
        }
        Script.due("sheets, call 505", "row", maze.row(4, 3), 9);
        Script.due("sheets, call 506", "all 1", maze.all(1), things);
        for (int x = 0; x < 6; x++) {
            int kind = new int[] {-1, 0, 1, 1, 2, 2, 3, 3, 3}[told[x]];
            Script.due("sheets, call " + (507 + x), "at", maze.at(36 + x, 0), kind);
        }
    }

    /** What an object holds is made with it: neither calls nor their number add to it. */
    private static void room() {
        long[] before = sizeOf(new MirrorMaze());
        Script.due("room", "objects, few", before[0] <= 300 ? 1 : 0, 1);
        Script.due("room", "fields and elements, few", before[1] <= 15_000 ? 1 : 0, 1);
        for (String setting : new String[] {HALVES, MIRRORS, DOORS, Probe.FURNISHED}) {
            MirrorMaze maze = Edges.settled(setting);
            int left = Script.MOST_CALLS - Script.rowsOf(setting).size();
            for (int i = 0; i < left; i++) {
                Script.call(maze, i % 9 == 0 ? "open" : filled(ASKING[i % ASKING.length], i));
            }
            long[] behind = sizeOf(maze);
            Script.due("room behind 512 calls", "objects", behind[0], before[0]);
            Script.due("room behind 512 calls", "fields and elements", behind[1], before[1]);
        }
    }

    /** How many objects and arrays there are, and how many fields and elements they have. */
    private static long[] sizeOf(Object root) {
        long[] size = new long[2];
        Set<Object> found = Collections.newSetFromMap(new IdentityHashMap<>());
        Deque<Object> open = new ArrayDeque<>(List.of(root));
        while (!open.isEmpty()) {
            Object object = open.pop();
            if (found.add(object)) {
                List<Object> parts = partsOf(object);
                size[0]++;
                size[1] += object.getClass().isArray() ? Array.getLength(object) : parts.size();
                parts.stream().filter(part -> part != null && isHeld(part)).forEach(open::push);
            }
        }
        return size;
    }

    private static boolean isHeld(Object part) {
        return part.getClass().isArray() || part.getClass().getName().startsWith("MirrorMaze");
    }

    private static List<Object> partsOf(Object object) {
        List<Object> parts = new ArrayList<>();
        if (object instanceof Object[] array) {
            Collections.addAll(parts, array);
        } else if (!object.getClass().isArray()) {
            for (Field field : object.getClass().getDeclaredFields()) {
                if (!Modifier.isStatic(field.getModifiers())) {
                    parts.add(valueOf(field, object));
                }
            }
        }
        return parts;
    }

    private static Object valueOf(Field field, Object object) {
        try {
            field.setAccessible(true);
            return field.get(object);
        } catch (ReflectiveOperationException e) {
            throw new IllegalStateException(e);
        }
    }
}
