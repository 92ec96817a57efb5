/**
 * The limits of one argument, N in a call: each number within them is taken, and the first behind them
 * on either side, and those far off, are refused. Each number is tried on a new object.
 */
final class Edges {
    private static final int BEYOND = Script.answerOf("BEYOND");
    private static final int[] FAR_OFF = {
        Integer.MIN_VALUE, Integer.MIN_VALUE + 1, -256, -10, 256, 1 << 16, 1 << 30, Integer.MAX_VALUE - 1, Integer.MAX_VALUE};
    private static final int[][] FLOORS = {{9, 9}, {1, 1}, {9, 1}, {1, 9}, {4, 3}, {8, 9}, {9, 8}};

    private Edges() {
    }

    static void limits(String name, String setting, String call, int least, int most) {
        for (int n = least - 3; n <= most + 3; n++) {
            tryOne(name, setting, call, n, least <= n && n <= most);
        }
        for (int n : FAR_OFF) {
            tryOne(name, setting, call, n, least <= n && n <= most);
        }
    }

    /** N as a FIELD, on floors of several sizes; the setting comes behind the floor. */
    static void fields(String name, String setting, String call) {
        for (int[] floor : FLOORS) {
            String set = "floor " + floor[0] + " " + floor[1] + "\n" + setting;
            for (int n = -2; n <= 90; n++) {
                tryOne(name, set, call, n, n >= 0 && n % 9 < floor[0] && n / 9 < floor[1]);
            }
            for (int n : FAR_OFF) {
                tryOne(name, set, call, n, false);
            }
        }
    }

    private static void tryOne(String name, String setting, String call, int n, boolean isTaken) {
        MirrorMaze maze = settled(setting);
        int before = maze.all(5);
        String text = call.replace("N", String.valueOf(n));
        int answer = Script.call(maze, text);
        Script.due(name, text + " behind " + setting.replace('\n', ';') + (isTaken ? " is taken" : " is BEYOND"),
                answer == BEYOND ? 0 : 1, isTaken ? 1 : 0);
        Script.due(name, "all 5 behind " + text, maze.all(5), before + (answer < -99999 ? 1 : 0));
    }

    /** A new object behind rows of calls; answers in them are left out. */
    static MirrorMaze settled(String setting) {
        MirrorMaze maze = new MirrorMaze();
        for (String row : Script.rowsOf(setting)) {
            Script.call(maze, row.replaceAll("=.*", "").trim());
        }
        return maze;
    }
}
