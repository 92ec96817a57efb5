import java.lang.reflect.Method;
import java.util.ArrayList;
import java.util.List;
import java.util.Map;

/** Long runs of made-up calls, the same each time, on MirrorMaze and on PlainMaze. */
public final class PlainTest {
    private static final int CALLS = 512;
    private static final int[] ODD = {-1, -2, 81, 100, 1 << 20, Integer.MAX_VALUE, Integer.MIN_VALUE};
    private static final int[] EDGES = {
        0, 1, 2, 3, 4, 5, 6, 8, 9, 16, 29, 30, 31, 32, 80, 81, -1, Integer.MAX_VALUE, Integer.MIN_VALUE};
    private static final Map<String, Method> METHODS = Script.callsOf(MirrorMaze.class);

    /** What an argument stands for, so that most made-up ones are such as there can be. */
    private static final String[] FACE = {
        "floor side side", "thing field kind of", "clear field", "as field kind", "at field what", "lean field",
        "shut field", "path field way", "step field way place", "closes field way", "spread field way flag",
        "sees field field", "seen field", "rings", "ring few flag", "lamp field way colour", "out", "face few way",
        "lit field", "bright colour", "opened flag", "open", "turns few field", "turn set", "far field field",
        "first field field", "reach field", "visit field field", "sheet sheet bits length", "put sheet number value",
        "copy sheet number sheet number few", "row side sheet", "undo", "all what"};
    /** Calls that build, drawn more often, lest most mazes be empty. */
    private static final String[] BUILD = {
        "thing field kind of", "thing field kind of", "thing field kind of", "lamp field way colour", "lean field",
        "put sheet number value", "row side sheet", "open", "turns few field", "visit field field"};

    /** Kinds to draw from: of all sorts; mirrors for the most part, so that rays close; tables. */
    private static final int[][] KINDS = {
        {0, 1, 1, 2, 2, 3, 3, 4, 4, 5}, {1, 1, 1, 1, 1, 1, 2, 2, 4, 3}, {4, 4, 4, 4, 4, 2, 2, 1, 3, 0}};

    private final boolean isSmall;
    private final boolean isMirrored;
    private final int[] kinds;
    private final MirrorMaze maze = new MirrorMaze();
    private final PlainMaze plain = new PlainMaze();
    private long seed;

    private PlainTest(int run) {
        isSmall = run % 2 == 0;
        isMirrored = run % 3 == 1;
        kinds = KINDS[run % 3];
        seed = 7919L * run + 17;
    }

    public static void main(String[] args) {
        int runs = args.length > 0 ? Integer.parseInt(args[0]) : 60;
        for (int run = 0; run < runs; run++) {
            new PlainTest(run).run("run " + run);
        }
        for (int i = 0; i < FACE.length; i++) {
            new PlainTest(i).runEdges(FACE[i].split(" "));
        }
        Script.end("PlainTest");
    }

    /** One call with all edges in all of its arguments, up to as many as an object is good for. */
    private void runEdges(String[] words) {
        beBuilt();
        int size = words.length == 1 ? 1 : (int) Math.pow(EDGES.length, words.length - 1);
        int stride = Math.max(1, size / (CALLS - 60)) | 1;
        for (int i = 0, code = 0; i < CALLS - 60 && code < size; i++, code += stride) {
            StringBuilder call = new StringBuilder(words[0]);
            int rest = code;
            for (int k = 1; k < words.length; k++) {
                int edge = EDGES[rest % EDGES.length];
                call.append(' ').append(words[k].equals("flag") ? String.valueOf(edge == 0) : String.valueOf(edge));
                rest /= EDGES.length;
            }
            compare("edges, call " + i, call.toString());
        }
    }

    private void beBuilt() {
        for (int i = 0; i < 50; i++) {
            compare("beginning", beginning(i));
        }
    }

    private void run(String name) {
        int beginning = isSmall ? 30 : 48;
        for (int i = 0; i < CALLS; i++) {
            compare(name + ", call " + i, i < beginning ? beginning(i) : madeUp());
        }
    }

    private void compare(String where, String call) {
        String[] words = call.split(" ");
        int[] values = new int[words.length - 1];
        for (int k = 0; k < values.length; k++) {
            values[k] = words[k + 1].equals("true") ? 1 : words[k + 1].equals("false") ? 0 : Integer.parseInt(words[k + 1]);
        }
        Script.due(where, call, Script.call(METHODS, maze, call), plain.answer(words[0], values));
    }

    /** The first calls bring something to the floor. */
    private String beginning(int i) {
        if (i == 0) {
            return isSmall ? "floor " + (3 + draw(3)) + " " + (3 + draw(3)) : "floor 9 9";
        }
        if (i <= 3) {
            return "sheet " + (i - 1) + " " + (8 << draw(2)) + " 9";
        }
        if (i <= 8) {
            return "lamp " + normal("field") + " " + draw(4) + " " + draw(3);
        }
        if (isMirrored) {
            return i % 7 == 0 ? "row " + draw(plain.deep()) + " 1" : "put 1 " + i % 7 + " " + normal("value");
        }
        return "thing " + normal("field") + " " + normal("kind") + " " + draw(2);
    }

    private String madeUp() {
        String[] from = draw(2) == 0 ? FACE : BUILD;
        String[] words = from[draw(from.length)].split(" ");
        if (words[0].equals("floor") && draw(8) != 0) {
            return "rings";
        }
        StringBuilder call = new StringBuilder(words[0]);
        for (int i = 1; i < words.length; i++) {
            boolean isOdd = !words[i].equals("flag") && draw(40) == 0;
            call.append(' ').append(isOdd ? String.valueOf(ODD[draw(ODD.length)]) : normal(words[i]));
        }
        return call.toString();
    }

    private String normal(String meaning) {
        return switch (meaning) {
            case "flag" -> draw(2) == 0 ? "true" : "false";
            case "field" -> String.valueOf(draw(20) == 0 ? draw(81) : 9 * draw(plain.deep()) + draw(plain.wide()));
            case "side" -> String.valueOf(draw(isSmall ? 6 : 10));
            case "kind" -> String.valueOf(kinds[draw(kinds.length)]);
            case "of" -> String.valueOf(new int[] {0, 0, 0, 1, 1, 2}[draw(6)]);
            case "way" -> String.valueOf(draw(4));
            case "colour" -> String.valueOf(draw(3));
            case "what" -> String.valueOf(draw(6));
            case "place" -> String.valueOf(draw(12));
            case "few" -> String.valueOf(draw(5));
            case "set" -> String.valueOf(draw(1 << draw(11)));
            case "sheet" -> String.valueOf(draw(4));
            case "bits" -> String.valueOf(new int[] {8, 8, 16, 16, 32, 0, 7}[draw(7)]);
            case "length" -> String.valueOf(draw(32));
            case "number" -> String.valueOf(draw(10));
            case "value" -> String.valueOf(draw(9) == 0 ? draw(1 << 20) : isMirrored ? 2 + draw(4) : draw(10));
            default -> throw new IllegalArgumentException(meaning);
        };
    }

    private int draw(int bound) {
        seed = seed * 6364136223846793005L + 1442695040888963407L;
        return (int) ((seed >>> 33) % bound);
    }
}
