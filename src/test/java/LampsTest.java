/** Promises 17 to 25: lamps, doors, tables. */
public final class LampsTest {
    /** One lamp that opens doors one behind the other, and one that helps it past a door of colour 1. */
    private static final String DOORS = """
            lamp 0 0 0 = 0
            thing 2 3 0 = 1
            thing 4 3 0 = 2
            thing 6 3 1 = 3
            thing 8 3 0 = 4
            """;

    public static void main(String[] args) {
        lamp();
        out();
        face();
        lit();
        bright();
        opened();
        open();
        turns();
        turnsOfAll();
        turn();
        Script.end("LampsTest");
    }

    private static void lamp() {
        Script.run("promise 17", """
                lamp -1 0 0 = BEYOND
                lamp 81 0 0 = BEYOND
                lamp 0 -1 0 = BEYOND
                lamp 0 4 0 = BEYOND
                lamp 0 0 -1 = BEYOND
                lamp 0 0 3 = BEYOND
                all 2 = 0
                thing 0 0 0 = 1
                thing 1 3 0 = 2
                lamp 0 0 0 = TAKEN
                lamp 1 0 0 = TAKEN
                lamp 2 0 0 = 0
                lamp 2 1 1 = TAKEN
                lamp 2 4 1 = BEYOND
                lamp 3 1 1 = 1
                lamp 4 2 2 = 2
                lamp 5 3 0 = 3
                lamp 6 0 1 = 4
                lamp 7 0 2 = 5
                lamp 8 0 0 = FULL
                lamp 2 0 0 = TAKEN
                lamp 0 0 0 = TAKEN
                lamp 8 0 3 = BEYOND
                all 2 = 6
                at 7 3 = 5
                at 8 3 = -1
                out = 5
                lamp 8 0 0 = 5
                at 7 3 = -1
                floor 3 3 = 3
                lamp 3 0 0 = BEYOND
                """);
    }

    private static void out() {
        Script.run("promise 18", """
                out = NONE
                lamp 0 0 0 = 0
                lamp 1 0 1 = 1
                out = 1
                at 1 3 = -1
                at 0 3 = 0
                lit 8 = 1
                thing 1 0 0 = 1
                out = 0
                lit 0 = 0
                out = NONE
                all 2 = 0
                """);
    }

    private static void face() {
        Script.run("promise 19", """
                face 0 0 = BEYOND
                lamp 40 2 0 = 0
                lamp 41 1 0 = 1
                face -1 0 = BEYOND
                face 2 0 = BEYOND
                face 0 -1 = BEYOND
                face 0 4 = BEYOND
                face 0 3 = 2
                face 0 3 = 3
                face 1 0 = 1
                face 0 0 = 3
                lit 44 = 1
                face 0 1 = 0
                face 1 2 = 0
                lit 36 = 1
                lit 76 = 1
                lit 44 = 0
                """);
    }

    private static void lit() {
        Script.run("promise 20", """
                lit -1 = BEYOND
                lit 81 = BEYOND
                lit 0 = 0
                lamp 36 0 0 = 0
                lit 36 = 1
                lit 44 = 1
                lit 45 = 0
                lamp 4 1 1 = 1
                lit 40 = 3
                lit 4 = 2
                lit 76 = 2
                lamp 44 2 2 = 2
                lit 40 = 7
                lit 36 = 5
                thing 40 3 2 = 1
                lit 40 = 7      # each lamp's ray ends at the door
                lit 44 = 4
                lit 36 = 1
                lit 49 = 0
                clear 40 = 3
                thing 40 0 0 = 1
                lit 40 = 0      # rays that end at a wall don't light it
                clear 40 = 0
                thing 40 2 1 = 1
                lit 40 = 7
                lit 76 = 3      # from the left parted downward, from above straight on
                lit 44 = 7
                lit 4 = 6
                lit 36 = 5
                """);
        Script.run("promise 20: doors as they are", DOORS + """
                lit 2 = 1
                lit 3 = 0
                opened false = 2
                lit 3 = 0
                open = 2
                lit 3 = 1
                lit 4 = 1
                lit 6 = 1
                lit 7 = 0
                """);
    }

    private static void bright() {
        Script.run("promise 21", """
                bright -1 = BEYOND
                bright 3 = BEYOND
                bright 0 = 0
                lamp 36 0 0 = 0
                bright 0 = 9
                bright 1 = 0
                bright 2 = 0
                lamp 4 1 0 = 1
                bright 0 = 17
                lamp 80 2 2 = 2
                bright 2 = 9
                thing 13 3 1 = 1
                bright 0 = 11    # the row, and 4 with the door beneath it
                thing 38 0 0 = 2
                bright 0 = 4
                """);
    }

    private static void opened() {
        Script.run("promise 22", DOORS + """
                opened false = 2
                opened true = 2
                all 4 = 0
                at 2 2 = 0
                lamp 24 3 1 = 1
                opened false = 4  # 2 and 6, then 4, then 8
                opened true = 3
                all 4 = 0
                face 0 2 = 0
                opened false = 1
                opened true = 1
                face 1 1 = 3
                opened false = 0
                opened true = 0
                face 1 3 = 1
                open = 1
                opened false = 1  # what is open already is opened, too
                opened true = 0
                face 0 0 = 2
                opened false = 4
                opened true = 3
                undo = 10
                undo = 9
                opened false = 1
                """);
    }

    private static void open() {
        Script.run("promise 23", DOORS + """
                open = 2
                at 2 2 = 1
                at 4 2 = 1
                at 6 2 = 0
                at 8 2 = 0
                open = 0
                lamp 24 3 1 = 1
                open = 2
                all 4 = 4
                open = 0
                shut 4 = 1
                open = 1
                face 0 2 = 0
                face 1 1 = 3
                open = 0
                all 4 = 4        # nothing closes them
                shut 2 = 1
                open = 0
                all 4 = 3
                """);
        Script.run("promise 23: a door at field 0", """
                thing 0 3 1 = 1
                lamp 4 2 1 = 0
                lit 0 = 2
                bright 1 = 5
                open = 1
                at 0 2 = 1
                all 4 = 1
                """);
        Script.run("promise 23: only their own colour opens doors", """
                lamp 0 0 0 = 0
                thing 8 3 1 = 1
                lamp 9 0 1 = 1
                thing 17 3 2 = 2
                lamp 18 0 2 = 2
                thing 26 3 2 = 3
                open = 1
                at 26 2 = 1
                all 4 = 1
                """);
    }

    private static void turns() {
        Script.run("promise 24: of several the least", """
                turns 0 0 = BEYOND
                lamp 18 0 0 = 0
                thing 22 4 1 = 1
                thing 40 4 0 = 2
                thing 4 1 0 = 3
                thing 8 1 1 = 4
                turns -1 0 = BEYOND
                turns 1 0 = BEYOND
                turns 0 81 = BEYOND
                turns 0 -1 = BEYOND
                turns 0 18 = 0
                turns 0 22 = 0
                turns 0 40 = 0
                turns 0 36 = 0
                turns 0 44 = 1   # 1 by the mirrors, or 2
                turns 0 41 = 2
                turns 0 80 = 1
                turns 0 23 = NONE
                turns 0 49 = NONE
                lamp 45 0 1 = 1
                turns 1 53 = 0
                turns 1 44 = NONE
                at 22 1 = 1
                at 40 1 = 0
                at 22 0 = 4
                """);
        Script.run("promise 24: the fewest, not the least", """
                lamp 0 0 0 = 0
                thing 2 2 1 = 1
                thing 4 4 0 = 2
                thing 31 4 0 = 3
                thing 56 4 0 = 4
                thing 62 1 0 = 5
                turns 0 35 = 4   # 3 would be less as bits
                turns 0 32 = 3
                turns 0 27 = 1
                turns 0 54 = 0
                turns 0 58 = 4
                thing 60 3 0 = 6
                turns 0 35 = 3
                turns 0 60 = NONE
                turns 0 59 = 4
                """);
    }

    private static void turnsOfAll() {
        Script.run("promise 24: ten tables, stair by stair", """
                lamp 0 0 0 = 0
                thing 1 4 0 = 1
                thing 10 4 0 = 2
                thing 11 4 0 = 3
                thing 20 4 0 = 4
                thing 21 4 0 = 5
                thing 30 4 0 = 6
                thing 31 4 0 = 7
                thing 40 4 0 = 8
                thing 41 4 0 = 9
                thing 50 4 0 = 10
                turns 0 51 = 1023
                turns 0 53 = 1023
                turns 0 50 = 511
                turns 0 49 = 511
                turns 0 59 = NONE
                turns 0 10 = 1
                turns 0 18 = 7
                turn 1023 = 10
                turns 0 51 = 0
                turns 0 49 = 512
                turns 0 18 = 8
                """);
        Script.run("promise 24: a table at field 0, turns and a shut door", """
                lamp 36 3 0 = 0
                thing 0 4 1 = 1
                thing 5 3 0 = 2
                turns 0 1 = 1
                turns 0 0 = 0
                turns 0 5 = NONE
                turns 0 8 = NONE
                turn 1 = 1
                opened false = 1
                turns 0 8 = NONE
                open = 1
                turns 0 8 = 0
                """);
    }

    private static void turn() {
        Script.run("promise 25", """
                turn 0 = 0
                turn 1 = BEYOND
                thing 50 4 0 = 1
                thing 10 4 1 = 2
                thing 30 1 0 = 3
                turn 4 = BEYOND
                turn 5 = BEYOND
                turn -1 = BEYOND
                turn -2147483648 = BEYOND
                turn 1 = 1
                at 10 1 = 0
                at 50 1 = 0
                turn 2 = 1
                at 50 1 = 1
                turn 3 = 2
                at 10 1 = 1
                at 50 1 = 0
                at 30 1 = 0
                thing 60 4 0 = 4
                thing 61 4 0 = 5
                thing 62 4 0 = 6
                thing 63 4 0 = 7
                thing 64 4 0 = 8
                thing 65 4 0 = 9
                thing 66 4 0 = 10
                thing 67 4 0 = 11
                turn 1023 = 10
                turn 1024 = BEYOND
                at 67 1 = 1
                at 10 1 = 0
                turn 512 = 1
                at 67 1 = 0
                at 66 1 = 1
                """);
    }
}
