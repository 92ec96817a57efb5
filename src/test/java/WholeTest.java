/** Promises 34 and 35: undo and all. */
public final class WholeTest {
    public static void main(String[] args) {
        undoOfEachAct();
        undoKeepsTwenty();
        all();
        findings();
        Script.end("WholeTest");
    }

    private static void undoOfEachAct() {
        Script.run("promise 34: each act", """
                undo = NONE
                thing 5 1 1 = 1
                lamp 0 1 2 = 0
                thing 27 3 2 = 2
                thing 40 4 0 = 3
                floor 4 4 = 2
                undo = 4
                at 5 1 = 1
                at 40 0 = 4
                all 0 = 81
                clear 5 = 1
                undo = 4
                at 5 0 = 1
                at 5 1 = 1
                lean 5 = 0
                undo = 4
                at 5 1 = 1
                open = 1
                shut 27 = 1
                undo = 5
                at 27 2 = 1
                undo = 4
                at 27 2 = 0
                out = 0
                undo = 4
                at 0 3 = 0
                face 0 0 = 1
                undo = 4
                face 0 1 = 1
                undo = 4
                turn 1 = 1
                at 40 1 = 1
                undo = 4
                at 40 1 = 0
                sheet 0 8 9 = 9
                put 0 0 1 = 0
                put 0 1 1 = 0
                row 0 0 = 8
                at 5 0 = -1
                undo = 4
                at 5 0 = 1
                at 1 0 = -1
                row 0 0 = 8      # sheets are not taken back
                at 1 0 = 0
                undo = 4
                undo = 3
                all 3 = 0
                undo = 2
                at 27 0 = -1
                undo = 1
                at 0 3 = -1
                undo = 0
                all 1 = 0
                undo = NONE
                put 0 8 1 = 0
                """);
        Script.run("promise 34: lamps that went with the floor", """
                lamp 8 0 0 = 0
                lamp 0 1 1 = 1
                lamp 1 2 2 = 2
                floor 2 2 = 2
                at 0 3 = 0
                undo = 3
                at 8 3 = 0
                at 0 3 = 1
                at 1 3 = 2
                face 0 3 = 0
                face 1 3 = 1
                face 2 3 = 2
                """);
        Script.run("promise 34: acts that changed nothing, and acts that are none", """
                floor 9 9 = 0
                turn 0 = 0
                open = 0
                thing 0 3 0 = 1
                shut 0 = 0
                lamp 1 0 0 = 0
                face 0 0 = 0
                sheet 0 8 0 = 0
                row 0 0 = 0
                lit 0 = 0
                opened false = 0
                visit 1 1 = 0
                turns 0 1 = 0
                lean 80 = NONE
                thing 0 0 0 = TAKEN
                copy 0 0 0 0 0 = 0
                undo = 7
                undo = 6
                at 1 3 = 0
                undo = 5
                at 1 3 = -1
                at 0 0 = 3
                undo = 4
                undo = 3
                at 0 0 = -1
                undo = 2
                undo = 1
                undo = 0
                undo = NONE
                """);
    }

    private static void undoKeepsTwenty() {
        StringBuilder text = new StringBuilder();
        for (int i = 0; i < 25; i++) {
            text.append("thing ").append(i).append(" 0 0 = ").append(i + 1).append('\n');
        }
        for (int i = 19; i >= 0; i--) {
            text.append("undo = ").append(i).append('\n');
            text.append("all 1 = ").append(i + 5).append('\n');
        }
        text.append("undo = NONE\nall 1 = 5\nat 4 0 = 0\nat 5 0 = -1\n");
        text.append("thing 80 1 1 = 6\nundo = 0\nat 80 0 = -1\nundo = NONE\n");
        Script.run("promise 34: the latest 20 are kept", text.toString());
    }

    private static void all() {
        Script.run("promise 35", """
                all -1 = BEYOND
                all 6 = BEYOND
                all -2147483648 = BEYOND
                all 2147483647 = BEYOND
                all 5 = 4
                all 5 = 4
                all 0 = 81
                floor 7 5 = 0
                all 0 = 35
                thing 0 0 0 = 1
                thing 1 4 0 = 2
                thing 9 4 1 = 3
                thing 11 3 0 = 4
                thing 12 3 0 = 5
                lamp 10 0 0 = 0
                all 1 = 5
                all 2 = 1
                all 3 = 2
                all 4 = 0
                open = 2
                all 4 = 2
                all 1 = 5
                shut 11 = 1
                all 4 = 1
                all 5 = 4
                """);
    }

    private static void findings() {
        Script.run("promise 35: every call's findings are counted, and undo leaves the count", """
                floor 0 0 = BEYOND
                thing 0 9 0 = BEYOND
                clear 0 = NONE
                as 0 0 = NONE
                at 0 9 = BEYOND
                all 5 = 5
                lean 0 = NONE
                shut 0 = NONE
                path 0 9 = BEYOND
                step 0 0 9 = BEYOND
                closes 0 9 = BEYOND
                all 5 = 10
                spread 0 9 true = BEYOND
                sees 0 99 = BEYOND
                seen 99 = BEYOND
                ring 0 true = NONE
                lamp 0 0 9 = BEYOND
                all 5 = 15
                out = NONE
                face 0 0 = BEYOND
                lit 99 = BEYOND
                bright 9 = BEYOND
                turns 0 0 = BEYOND
                all 5 = 20
                turn 1 = BEYOND
                far 0 99 = BEYOND
                first 0 0 = NONE
                reach 99 = BEYOND
                visit 0 99 = BEYOND
                all 5 = 25
                sheet 0 8 -1 = SIZE
                put 0 0 0 = MISSING
                copy 0 0 0 0 0 = MISSING
                row 0 0 = MISSING
                undo = NONE
                all 5 = 30
                all 9 = BEYOND
                all 5 = 31
                thing 0 0 0 = 1
                thing 0 0 0 = TAKEN
                reach 0 = NONE
                undo = 0
                all 5 = 33
                at 0 0 = -1
                at 0 3 = -1
                all 5 = 33
                """);
    }
}
