/** An act that answers a finding changes nothing but the count of all(5), and calls that only ask change nothing at all. */
public final class RefusedTest {
    public static void main(String[] args) {
        settings();
        onTheFloor();
        rays();
        lamps();
        doorsAndTables();
        walks();
        sheets();
        undoAndAll();
        asking();
        sheetsAreNoActs();
        Script.end("RefusedTest");
    }

    /** What the calls below rely on. */
    private static void settings() {
        MirrorMaze maze = Edges.settled(Probe.FURNISHED);
        Script.due("furnished", "findings", maze.all(5), 0);
        Script.due("furnished", "things", maze.all(1), 15);
        Script.due("furnished", "lamps", maze.all(2), 6);
        Script.due("furnished", "tables", maze.all(3), 10);
        Script.due("furnished", "open doors", maze.all(4), 1);
        MirrorMaze few = Edges.settled(Probe.FEW);
        Script.due("few", "findings", few.all(5), 0);
        Script.due("few", "open doors", few.all(4), 1);
        Script.due("few", "acts", few.undo(), 8);
    }

    private static void refusedIn(String setting, String finding, String call) {
        MirrorMaze maze = Edges.settled(setting);
        int before = maze.all(5);
        Script.due("refused", call, Script.call(maze, call), Script.answerOf(finding));
        Script.due("refused", "all 5 behind " + call, maze.all(5), before + 1);
        Probe.same("refused", setting, call);
    }

    private static void refused(String finding, String calls) {
        for (String call : Script.rowsOf(calls)) {
            refusedIn(Probe.FURNISHED, finding, call);
        }
    }

    private static void onTheFloor() {
        refused("BEYOND", """
                floor 0 5; floor 10 5; floor 5 0; floor 5 10; thing 8 0 0; thing 63 0 0; thing -1 0 0
                thing 0 5 0; thing 0 -1 0; thing 0 0 1; thing 0 1 2; thing 0 3 3; thing 9 0 1; clear 81
                clear 8; as 8 0; as 9 5; at 8 0; at 9 4; lean 63; lean -1; shut 63; shut -1
                """);
        refused("TAKEN", """
                thing 9 0 0; thing 30 3 2; thing 36 0 0; thing 36 4 0; thing 20 4 0
                """);
        refused("FULL", "thing 0 4 0");
        refused("NONE", """
                clear 0; clear 36; as 0 0; lean 0; lean 36; shut 0; shut 36
                """);
        refused("KIND", """
                as 27 1; as 28 2; lean 27; lean 30; lean 31; shut 27; shut 9; shut 29
                """);
    }

    private static void rays() {
        refused("BEYOND", """
                path 8 0; path 0 4; step 8 0 0; step 0 -1 0; step 0 0 8; step 0 0 -1; closes 63 0; closes 0 4
                spread 8 0 true; spread 0 4 false; sees 8 0; sees 0 8; seen 63
                """);
        refused("NONE", "ring 99 true");
        refused("NONE", "ring -1 false");
    }

    private static void lamps() {
        refused("BEYOND", """
                lamp 8 0 0; lamp 0 4 0; lamp 0 0 3; lamp 36 0 3; face 6 0; face -1 0; face 0 4; face 3 -1
                lit 8; bright 3; bright -1
                """);
        refused("TAKEN", "lamp 9 0 0");
        refused("TAKEN", "lamp 36 1 1");
        refused("FULL", "lamp 0 0 0");
        refusedIn(Probe.NEW, "NONE", "out");
        refusedIn(Probe.NEW, "BEYOND", "face 0 0");
        refusedIn("thing 0 3 0; thing 1 1 1", "NONE", "out");
    }

    private static void doorsAndTables() {
        refused("BEYOND", """
                turns 6 0; turns -1 0; turns 0 8; turn 1024; turn -1; turn 1025; turn -2147483648
                """);
        refused("NONE", "turns 0 27");
        refused("NONE", "turns 4 0");
    }

    private static void walks() {
        refused("BEYOND", """
                far 8 0; far 0 8; first 8 0; first 0 8; reach 8; visit 8 0; visit 0 8
                """);
        refused("NONE", """
                far 9 0; far 0 9; first 0 0; first 0 9; reach 9; visit 0 9; visit 9 9
                """);
        // led there and back till it comes again to a FIELD
        refusedIn("floor 5 3; thing 3 1 1; thing 10 0 0; thing 11 0 0", "NONE", "visit 0 21");
    }

    private static void sheets() {
        refused("BEYOND", """
                sheet 4 8 1; sheet 0 9 1; sheet 0 8 31; sheet 0 0 31; put 4 0 1; put 0 30 1; put 1 3 1
                put 0 -1 1; put 2 0 1; copy 4 0 0 0 1; copy 0 0 4 0 1; copy 0 30 2 0 1; copy 0 0 2 0 1
                copy 0 25 0 1 6; copy 0 1 0 25 6; copy 0 -1 0 0 1; copy 0 0 0 -1 1; copy 0 1 0 0 -1; row 7 0
                row -1 0; row 1 4; row 1 -1
                """);
        refused("SIZE", "sheet 0 8 -1");
        refused("SIZE", "sheet 0 0 -1");
        refused("MISSING", """
                put 3 0 1; copy 3 0 0 0 1; copy 0 0 3 0 1; row 1 3
                """);
        refused("KIND", "copy 0 0 1 0 1");
        refused("KIND", "copy 1 0 0 0 1");
    }

    private static void undoAndAll() {
        refusedIn(Probe.NEW, "NONE", "undo");
        refusedIn("sheet 0 8 1; put 0 0 1", "NONE", "undo");
        refusedIn("thing 0 0 0; undo", "NONE", "undo");
        refused("BEYOND", "all 6");
        refused("BEYOND", "all -1");
    }

    private static void asking() {
        String calls = """
                as 9 1; at 9 0; at 0 0; at 0 3; at 30 2; path 0 0; path 36 0; step 36 0 1; closes 9 0
                spread 0 1 false; spread 36 0 true; sees 0 9; sees 36 36; seen 28; rings; ring 0 true; lit 30
                bright 0; bright 2; opened false; opened true; turns 0 36; turns 1 9; turns 3 46; far 0 1
                first 0 1; reach 0; visit 0 1; all 0; all 5
                """;
        for (String call : Script.rowsOf(calls)) {
            Probe.same("asking", Probe.FURNISHED + "\nthing 0 1 0; thing 1 1 1; clear 10; thing 10 1 0; lean 9", call);
        }
        Probe.same("asking", "lamp 0 0 0; thing 1 3 0; thing 3 3 0; thing 5 4 0", "opened false; opened true; turns 0 8; lit 1");
    }

    /** sheet, put and copy leave the maze alone, so nothing of them can be undone; copying a sheet onto itself changes none. */
    private static void sheetsAreNoActs() {
        Probe.same("sheets", Probe.FURNISHED, "copy 0 0 0 0 30");
        Probe.same("sheets", Probe.FURNISHED, "copy 0 30 2 0 0");
        Probe.same("sheets", Probe.FURNISHED, "put 0 0 1; put 1 2 8");
        Probe.same("sheets", Probe.FURNISHED, "sheet 3 0 0; sheet 2 8 0");
        Probe.same("sheets", Probe.FURNISHED, "sheet 3 32 4; put 3 0 1; sheet 3 0 0");
    }
}
