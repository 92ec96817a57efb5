/** The boundary cases of promises 34 and 35, sentence by sentence, and of an object's 512 calls. */
public final class WholeEdgesTest {
    /** Each act that undo names, in the setting Probe.FEW, and what it answers there. */
    private static final String[][] ACTS = {
        {"floor 3 3", "1"}, {"thing 0 1 1", "6"}, {"clear 28", "1"}, {"lean 28", "0"}, {"shut 30", "1"},
        {"lamp 0 0 0", "2"}, {"out", "1"}, {"face 0 1", "3"}, {"turn 1", "1"}, {"row 0 0", "8"}, {"row 3 0", "8"}};
    /** Acts that change nothing there. */
    private static final String[][] IDLE_ACTS = {
        {"floor 8 7", "7"}, {"shut 32", "0"}, {"face 0 3", "3"}, {"open", "0"}, {"turn 0", "0"}, {"row 6 1", "2"}};

    public static void main(String[] args) {
        undoNone();
        undoEach();
        undoIdle();
        undoNotRefused();
        undoNotAsked();
        undoTwenty();
        undoAndAnew();
        undoLeaves();
        all();
        allFindings();
        manyCalls();
        Script.end("WholeEdgesTest");
    }

    private static void undoNone() {
        Script.run("promise 34: NONE, nothing was done", "undo = NONE; undo = NONE; all 5 = 2");
        Script.run("promise 34: NONE, all is undone", "thing 0 0 0 = 1; undo = 0; undo = NONE; all 1 = 0");
        Script.run("promise 34: how many more can be, the last answers 0", """
                thing 0 0 0 = 1; lamp 1 0 0 = 0; turn 0 = 0; undo = 2; undo = 1; undo = 0; undo = NONE
                """);
    }

    private static void undoneAlone(String kind, String[] act) {
        MirrorMaze maze = Edges.settled(Probe.FEW);
        Script.due(kind, act[0], Script.call(maze, act[0]), Script.answerOf(act[1]));
        Script.due(kind, "undo behind " + act[0], maze.undo(), 9);
        Probe.same(kind, Probe.FEW, act[0] + "; undo");
    }

    private static void undoEach() {
        for (String[] act : ACTS) {
            undoneAlone("promise 34: each act that changed the maze is undone", act);
        }
        String oneMoreDoor = Probe.FEW + "; shut 30";
        MirrorMaze maze = Edges.settled(oneMoreDoor);
        Script.due("promise 34: open", "open", maze.open(), 1);
        Script.due("promise 34: open", "undo", maze.undo(), 10);
        Probe.same("promise 34: open is undone", oneMoreDoor, "open; undo");
        Script.run("promise 34: open with many ROUNDS is one act", """
                lamp 0 0 0 = 0; thing 1 3 0 = 1; thing 2 3 0 = 2; thing 3 3 0 = 3; open = 3; undo = 4; all 4 = 0
                """);
        Script.run("promise 34: turn of many TABLES is one act", """
                thing 0 4 0 = 1; thing 1 4 1 = 2; turn 3 = 2; undo = 2; at 0 1 = 0; at 1 1 = 1
                """);
        Script.run("promise 34: LAMPS come again in their order", """
                lamp 8 0 0 = 0; lamp 0 1 1 = 1; lamp 7 2 2 = 2; floor 8 9 = 2; at 0 3 = 0; undo = 3; at 8 3 = 0; at 0 3 = 1
                at 7 3 = 2; face 1 0 = 1
                """);
        Script.run("promise 34: a DOOR comes again as it was, OPEN", """
                lamp 0 0 0 = 0; thing 8 3 0 = 1; open = 1; clear 8 = 3; undo = 3; at 8 2 = 1; floor 8 8 = 1; undo = 3
                at 8 2 = 1; all 4 = 1
                """);
    }

    private static void undoIdle() {
        for (String[] act : IDLE_ACTS) {
            undoneAlone("promise 34: also such as changed nothing are kept", act);
        }
        Script.run("promise 34: a row that tells none is kept", "sheet 0 8 0 = 0; row 0 0 = 0; undo = 0; undo = NONE");
    }

    private static void undoNotRefused() {
        Script.run("promise 34: acts with a finding are not kept", """
                thing 0 0 0 = 1
                floor 0 0 = BEYOND; thing 0 0 0 = TAKEN; clear 1 = NONE; lean 0 = KIND; shut 0 = KIND; lamp 0 0 0 = TAKEN
                out = NONE
                face 0 0 = BEYOND; turn 1 = BEYOND; row 0 0 = MISSING; row 9 0 = BEYOND
                undo = 0; at 0 0 = -1; undo = NONE
                """);
    }

    private static void undoNotAsked() {
        Script.run("promise 34: other calls are not kept", """
                lamp 0 0 0 = 0
                as 0 0 = NONE; at 0 0 = -1; path 0 0 = 9; step 0 0 0 = 0; closes 0 0 = 0; spread 0 0 true = 9; sees 0 1 = 1
                seen 0 = 16; rings = 0
                ring 0 true = NONE; lit 0 = 1; bright 0 = 9; opened true = 0; turns 0 0 = 0; far 0 1 = 1; first 0 1 = 0
                reach 0 = 81; visit 0 1 = 1
                sheet 0 8 2 = 2; put 0 0 1 = 0; copy 0 0 0 1 1 = 1; all 0 = 81
                undo = 0; all 2 = 0; undo = NONE
                """);
    }

    private static String walls(int n) {
        StringBuilder text = new StringBuilder();
        for (int i = 0; i < n; i++) {
            text.append("thing " + i + " 0 0 = " + (i + 1) + "\n");
        }
        return text.toString();
    }

    /** Undoes as many as can be, each of which takes one wall away. */
    private static String undoAll(int walls, int kept) {
        StringBuilder text = new StringBuilder();
        for (int i = 1; i <= kept; i++) {
            text.append("undo = " + (kept - i) + "; all 1 = " + (walls - i) + "; at " + (walls - i) + " 0 = -1\n");
        }
        return text + "undo = NONE; all 1 = " + (walls - kept) + "\n";
    }

    private static void undoTwenty() {
        for (int n : new int[] {1, 19, 20, 21, 22, 39, 40, 41, 61}) {
            Script.run("promise 34: the latest 20 are kept, of " + n, walls(n) + undoAll(n, Math.min(n, 20)));
        }
        Script.run("promise 34: idle acts drive out others, too", walls(2) + "turn 0 = 0\n".repeat(19) + "undo = 19\n"
                + undoIdleOnes() + "undo = 0; all 1 = 1; at 1 0 = -1; undo = NONE");
    }

    private static String undoIdleOnes() {
        StringBuilder text = new StringBuilder();
        for (int i = 18; i >= 1; i--) {
            text.append("undo = " + i + "; all 1 = 2\n");
        }
        return text.toString();
    }

    private static void undoAndAnew() {
        Script.run("promise 34: an undo is no act, it can't be undone", """
                thing 0 0 0 = 1; thing 1 0 0 = 2; undo = 1; undo = 0; undo = NONE; all 1 = 0
                """);
        Script.run("promise 34: acts behind an undo are kept as others", """
                thing 0 0 0 = 1; thing 1 0 0 = 2; undo = 1; lamp 1 0 0 = 0; undo = 1; at 1 3 = -1; at 1 0 = -1; undo = 0
                at 0 0 = -1
                """);
        Script.run("promise 34: 20 are kept behind undos as well", walls(25) + """
                undo = 19; undo = 18; thing 40 1 0 = 24; thing 41 1 0 = 25; thing 42 1 0 = 26
                undo = 19; undo = 18; undo = 17; at 22 0 = 0; at 40 0 = -1; all 1 = 23
                """ + undoAll(23, 17));
    }

    private static void undoLeaves() {
        Script.run("promise 34: sheets are not taken back", """
                sheet 0 8 1 = 1; thing 0 1 0 = 1; put 0 0 1 = 0; undo = 0; row 0 0 = 1; at 0 0 = 0; undo = 0; row 0 0 = 1
                at 0 0 = 0
                """);
        Script.run("promise 35: the count of findings is not taken back", """
                thing 0 0 0 = 1; thing 0 0 0 = TAKEN; all 5 = 1; undo = 0; all 5 = 1; undo = NONE; all 5 = 2
                """);
    }

    private static void all() {
        Edges.limits("promise 35: another what", "", "all N", 0, 5);
        Edges.limits("promise 35: another what, of a furnished maze", Probe.FURNISHED, "all N", 0, 5);
        Script.run("promise 35: FIELDS, the least and the most", """
                all 0 = 81; floor 1 1 = 0; all 0 = 1; floor 9 8 = 0; all 0 = 72
                """);
        Script.run("promise 35: THINGS, without LAMPS", """
                all 1 = 0; lamp 0 0 0 = 0; all 1 = 0; thing 1 0 0 = 1; all 1 = 1; clear 1 = 0; all 1 = 0
                """);
        Script.run("promise 35: LAMPS", "all 2 = 0; thing 1 0 0 = 1; all 2 = 0; lamp 0 0 0 = 0; all 2 = 1; out = 0; all 2 = 0");
        Script.run("promise 35: TABLES alone", """
                thing 0 1 0 = 1; thing 1 2 0 = 2; thing 2 0 0 = 3; thing 3 3 0 = 4; all 3 = 0; thing 4 4 0 = 5; all 3 = 1
                clear 4 = 4; all 3 = 0
                """);
        Script.run("promise 35: OPEN DOORS alone", """
                thing 1 3 0 = 1; thing 9 3 0 = 2; all 4 = 0; lamp 0 0 0 = 0; open = 1; all 4 = 1; shut 1 = 1; all 4 = 0
                """);
    }

    private static void allFindings() {
        Script.run("promise 35: how many acts answered a finding ever", """
                all 5 = 0; at 81 0 = BEYOND; all 5 = 1; at 0 0 = -1; all 5 = 1; out = NONE; all 5 = 2
                """);
        Script.run("promise 35: this one, too, if it does", "all 6 = BEYOND; all 5 = 1; all -1 = BEYOND; all 5 = 2; all 5 = 2");
        MirrorMaze one = new MirrorMaze();
        MirrorMaze other = new MirrorMaze();
        Script.due("promise 35: each object counts its own", "all 6", one.all(6), -100001);
        Script.due("promise 35: each object counts its own", "all 5", one.all(5), 1);
        Script.due("promise 35: each object counts its own", "all 5 of the other", other.all(5), 0);
    }

    private static void manyCalls() {
        MirrorMaze maze = new MirrorMaze();
        for (int i = 1; i < Script.MOST_CALLS; i++) {
            Script.due("512 calls, all with a finding", "clear 0", maze.clear(0), -100006);
        }
        Script.due("512 calls, all with a finding", "the last", maze.all(5), Script.MOST_CALLS - 1);
        MirrorMaze acts = Edges.settled("thing 0 4 0");
        for (int i = 2; i < Script.MOST_CALLS; i++) {
            Script.due("512 calls, all of them acts", "turn 1", acts.turn(1), 1);
        }
        Script.due("512 calls, all of them acts", "the last", acts.undo(), 19);
        MirrorMaze rays = new MirrorMaze();
        for (int i = 0; i < Script.MOST_CALLS; i++) {
            Script.due("512 calls, all of them rays", "seen 40", rays.seen(40), 16);
        }
    }
}
