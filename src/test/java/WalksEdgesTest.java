/** The boundary cases of promises 26 to 29, sentence by sentence. */
public final class WalksEdgesTest {
    /** Each second row is a wall but for one end: the longest walk there is from 0 to 80. */
    private static final String WALLED_ROWS = walledRows();
    /** One THING of each kind, that of kind k at FIELD 10 + k. */
    private static final String ONE_OF_EACH = """
            thing 10 0 0 = 1; thing 11 1 0 = 2; thing 12 2 0 = 3; thing 13 3 0 = 4; thing 14 4 0 = 5
            """;

    public static void main(String[] args) {
        beyond();
        cantBeWalkedOn();
        far();
        first();
        reach();
        visitNone();
        visitSteps();
        Script.end("WalksEdgesTest");
    }

    private static String walledRows() {
        StringBuilder text = new StringBuilder();
        int n = 0;
        for (int y = 1; y < 9; y += 2) {
            int gap = y % 4 == 1 ? 8 : 0;
            for (int x = 0; x < 9; x++) {
                if (x != gap) {
                    text.append("thing " + (9 * y + x) + " 0 0 = " + ++n + "\n");
                }
            }
        }
        return text.toString();
    }

    private static void beyond() {
        for (String call : new String[] {"far", "first", "visit"}) {
            Edges.fields("promises 26, 27, 29: BEYOND, from", "", call + " N 0");
            Edges.fields("promises 26, 27, 29: BEYOND, to", "", call + " 0 N");
            Script.run("promises 26, 27, 29: BEYOND is asked ahead of NONE", """
                    thing 0 0 0 = 1; CALL 0 81 = BEYOND; CALL 81 0 = BEYOND; CALL 0 1 = NONE; CALL 1 0 = NONE; CALL 0 0 = NONE
                    """.replace("CALL", call));
        }
        Edges.fields("promise 28: BEYOND", "", "reach N");
        Script.run("promise 28: BEYOND is asked ahead of NONE", "thing 0 0 0 = 1; reach 81 = BEYOND; reach 0 = NONE");
    }

    private static void cantBeWalkedOn() {
        for (int field = 10; field <= 14; field++) {
            Script.run("terms 5: kind " + (field - 10) + " can't be walked on", ONE_OF_EACH + """
                    far 0 F = NONE; far F 0 = NONE; far F F = NONE; first 0 F = NONE; first F 0 = NONE; reach F = NONE
                    visit 0 F = NONE; visit F 0 = NONE; visit F F = NONE
                    """.replace("F", String.valueOf(field)));
        }
        Script.run("terms 5: WALKS go over OPEN DOORS, not over shut ones", """
                floor 3 1 = 0; thing 1 3 0 = 1; far 0 2 = NONE; first 0 2 = NONE; reach 0 = 1; visit 0 2 = NONE
                lamp 0 0 0 = 0; open = 1
                far 0 2 = 2; far 0 1 = 1; far 1 1 = 0; first 0 2 = 0; reach 0 = 3; reach 1 = 3; visit 0 2 = 2; visit 1 1 = 0
                shut 1 = 1; far 0 2 = NONE; far 1 1 = NONE; reach 1 = NONE; visit 1 1 = NONE
                """);
        Script.run("terms 5: WALKS go over FIELDS with LAMPS", """
                floor 3 1 = 0; lamp 1 0 0 = 0; far 0 2 = 2; far 1 1 = 0; reach 1 = 3; visit 0 2 = 2
                """);
    }

    private static void far() {
        Script.run("promise 26: from a FIELD to itself", "far 0 0 = 0; far 80 80 = 0; floor 1 1 = 0; far 0 0 = 0; reach 0 = 1");
        Script.run("promise 26: to FIELDS BESIDE, one step each WAY, none aslant", """
                far 40 41 = 1; far 40 49 = 1; far 40 39 = 1; far 40 31 = 1; far 40 50 = 2; far 40 32 = 2; far 40 30 = 2
                far 40 48 = 2
                """);
        Script.run("promise 26: not from a row's end to the next row's beginning", "far 8 9 = 9; far 9 8 = 9; far 17 18 = 9");
        Script.run("promise 26: the longest WALK", WALLED_ROWS + """
                far 0 80 = 48; far 80 0 = 48; far 0 8 = 8; far 0 18 = 18; far 0 79 = 47
                """);
        Script.run("promise 26: there is no WALK", """
                thing 1 0 0 = 1; far 0 8 = 10; thing 9 0 0 = 2; far 0 8 = NONE; far 8 0 = NONE; far 0 0 = 0; clear 9 = 0
                far 0 8 = 10
                """);
        Script.run("promise 26: not out of a small FLOOR", """
                floor 3 2 = 0; thing 1 0 0 = 1; far 0 2 = 4; thing 10 0 0 = 2; far 0 2 = NONE; floor 3 3 = 2; far 0 2 = 6
                """);
    }

    private static void first() {
        Script.run("promise 27: NONE, they are one", """
                first 0 0 = NONE; first 80 80 = NONE; thing 1 0 0 = 1; first 0 0 = NONE; first 40 40 = NONE
                """);
        Script.run("promise 27: NONE, there is none", """
                thing 1 0 0 = 1; thing 9 0 0 = 2; first 0 80 = NONE; first 80 0 = NONE; clear 9 = 0; first 0 80 = 1
                """);
        Script.run("promise 27: each WAY, one step", "first 40 41 = 0; first 40 49 = 1; first 40 39 = 2; first 40 31 = 3");
        Script.run("promise 27: to the first FIELD and to the last", """
                first 1 0 = 2; first 9 0 = 3; first 79 80 = 0; first 71 80 = 1; first 10 0 = 2
                """);
        Script.run("promise 27: the least of two WAYS", "first 40 50 = 0; first 40 32 = 0; first 40 48 = 1; first 40 30 = 2");
        Script.run("promise 27: a step of a shortest WALK, though a lower WAY is free", """
                first 80 0 = 2; thing 79 0 0 = 1; first 80 0 = 3; thing 1 0 0 = 2; first 0 2 = 1; first 2 0 = 1; first 10 0 = 2
                """);
        Script.run("promise 27: the longest WALK", WALLED_ROWS + """
                first 0 80 = 0; first 80 0 = 2; first 8 80 = 1; first 26 80 = 2; first 8 0 = 2
                """);
    }

    private static void reach() {
        Script.run("promise 28: with it, one at least", """
                floor 1 1 = 0; reach 0 = 1; floor 9 9 = 0; thing 1 0 0 = 1; thing 9 0 0 = 2; reach 0 = 1; reach 80 = 78
                """);
        Script.run("promise 28: all FIELDS", "reach 0 = 81; reach 80 = 81; floor 4 3 = 0; reach 0 = 12; reach 21 = 12");
        Script.run("promise 28: through all of a long WALK", WALLED_ROWS + """
                reach 0 = 49; reach 80 = 49; reach 17 = 49; reach 9 = NONE; thing 17 0 0 = 33; reach 0 = 9; reach 80 = 39
                """);
        Script.run("promise 28: parts that are apart", """
                floor 3 3 = 0; thing 9 0 0 = 1; thing 10 1 0 = 2; reach 0 = 7; thing 11 2 0 = 3; reach 0 = 3; reach 18 = 3
                reach 10 = NONE
                """);
    }

    private static void visitNone() {
        Script.run("terms 5: NONE if it can't walk there", """
                thing 1 0 0 = 1; thing 9 0 0 = 2; visit 0 80 = NONE; visit 80 0 = NONE; visit 0 0 = 0
                """);
        Script.run("terms 5: NONE if it can't walk there, though it SEES it", """
                floor 5 1 = 0; thing 2 2 0 = 1; sees 0 4 = 1; far 0 4 = NONE; visit 0 4 = NONE; visit 4 0 = NONE; visit 0 1 = 1
                """);
        Script.run("terms 5: NONE if it comes again to a FIELD, the one that it came from", """
                floor 5 3 = 0; thing 3 1 1 = 1; thing 10 0 0 = 2; thing 11 0 0 = 3; sees 0 21 = 1; sees 2 21 = 1; far 2 21 = 7
                visit 2 21 = NONE; visit 1 21 = NONE; visit 0 21 = NONE; visit 9 21 = 4
                """);
        Script.run("terms 5: a FIELD to which it comes only once is no hindrance", """
                floor 3 3 = 0; thing 10 0 0 = 1; visit 0 20 = 4; visit 20 0 = 4; visit 1 19 = 4
                """);
    }

    private static void visitSteps() {
        Script.run("promise 29: it is there", "visit 0 0 = 0; visit 80 80 = 0; floor 1 1 = 0; visit 0 0 = 0");
        Script.run("promise 29: one step each WAY", "visit 40 41 = 1; visit 40 49 = 1; visit 40 39 = 1; visit 40 31 = 1");
        Script.run("promise 29: the longest WALK", WALLED_ROWS + "visit 0 80 = 48; visit 80 0 = 48; visit 9 0 = NONE");
        Script.run("terms 5: of the WAYS by which it SEES, the least one", """
                floor 5 3 = 0; thing 3 1 1 = 1; thing 21 1 0 = 2; sees 0 18 = 3; far 0 18 = 2; visit 0 18 = 6; visit 9 18 = 1
                """);
        Script.run("terms 5: whose next FIELD can be walked on", """
                floor 5 3 = 0; thing 3 1 1 = 1; thing 21 1 0 = 2; thing 1 2 0 = 3; sees 0 18 = 3; visit 0 18 = 2
                """);
        Script.run("terms 5: without such, the least WAY of a shortest WALK", """
                visit 0 10 = 2; visit 40 30 = 2; floor 3 3 = 0; thing 1 0 0 = 1; thing 9 2 0 = 2; visit 0 18 = NONE
                clear 9 = 2; visit 0 2 = 4
                """);
        Script.run("terms 5: the WAY by which it SEES goes ahead of a shorter WALK", """
                floor 5 3 = 0; thing 3 1 1 = 1; thing 21 1 0 = 2; thing 9 0 0 = 3; thing 10 0 0 = 4; far 0 18 = 6; visit 0 18 = 6
                clear 9 = 0; far 0 18 = 2; sees 0 18 = 3; visit 0 18 = 6
                """);
    }
}
