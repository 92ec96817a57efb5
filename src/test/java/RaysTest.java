/** Promises 9 to 16: rays. */
public final class RaysTest {
    /** The least ring: clockwise it goes through 0, 1, 10, 9. */
    private static final String LEAST_RING = """
            thing 0 1 0 = 1
            thing 1 1 1 = 2
            thing 10 1 0 = 3
            thing 9 1 1 = 4
            """;

    public static void main(String[] args) {
        path();
        step();
        closes();
        spread();
        sees();
        seen();
        rings();
        ring();
        Script.end("RaysTest");
    }

    private static void path() {
        Script.run("promise 9: findings and a bare floor", """
                path -1 0 = BEYOND
                path 81 0 = BEYOND
                path 0 -1 = BEYOND
                path 0 4 = BEYOND
                path 0 0 = 9
                path 0 1 = 9
                path 0 2 = 1
                path 0 3 = 1
                path 39 0 = 6
                path 39 1 = 5
                path 39 2 = 4
                path 39 3 = 5
                floor 3 2 = 0
                path 0 0 = 3
                path 0 1 = 2
                path 3 0 = BEYOND
                """);
        Script.run("promise 9: walls, doors, lamps", """
                thing 38 0 0 = 1
                path 36 0 = 2
                path 38 0 = 7
                clear 38 = 0
                thing 38 3 1 = 1
                path 36 0 = 2
                path 38 2 = 3
                lamp 36 0 1 = 0
                lamp 37 0 0 = 1
                path 36 0 = 2
                open = 1
                path 36 0 = 9
                """);
        Script.run("promise 9: mirrors, halves, tables", """
                thing 40 1 0 = 1
                path 36 0 = 9
                path 40 0 = 5
                path 45 3 = 6
                clear 40 = 1
                thing 39 2 0 = 1
                path 36 0 = 8
                path 39 1 = 5
                clear 39 = 2
                thing 38 4 1 = 1
                path 36 0 = 7
                """);
    }

    private static void step() {
        Script.run("promise 10: findings", """
                step -1 0 0 = BEYOND
                step 81 0 0 = BEYOND
                step 0 -1 0 = BEYOND
                step 0 4 0 = BEYOND
                step 0 0 -1 = BEYOND
                step 0 0 9 = BEYOND
                step 0 0 -2147483648 = BEYOND
                step 0 0 2147483647 = BEYOND
                step 0 0 0 = 0
                step 0 0 8 = 32
                step 0 1 8 = 289
                step 80 2 0 = 322
                step 80 2 1 = 318
                step 80 3 1 = 287
                """);
        String leans = """
                step 36 0 4 = 163  # LEAN 0: 0 becomes 3
                step 36 0 5 = 127
                step 76 3 4 = 160  # 3 becomes 0
                step 76 3 5 = 164
                step 4 1 4 = 162   # 1 becomes 2
                step 4 1 5 = 158
                step 44 2 4 = 161  # 2 becomes 1
                step 44 2 5 = 197
                lean 40 = 1
                step 36 0 4 = 161  # LEAN 1: 0 becomes 1
                step 4 1 4 = 160   # 1 becomes 0
                step 44 2 4 = 163  # 2 becomes 3
                step 76 3 4 = 162  # 3 becomes 2
                step 40 0 0 = 160  # a mirror's own field: as told
                step 40 0 1 = 164
                step 40 1 1 = 197
                """;
        Script.run("promise 10: mirror", "thing 40 1 0 = 1\n" + leans);
        Script.run("promise 10: half", "thing 40 2 0 = 1\n" + leans);
        Script.run("promise 10: table", "thing 40 4 0 = 1\n" + leans);
        Script.run("promise 10: a closed path", LEAST_RING + """
                step 0 0 0 = 0
                step 0 0 1 = 5
                step 0 0 2 = 42
                step 0 0 3 = 39
                step 0 0 4 = BEYOND
                step 10 2 2 = 0
                step 10 2 3 = 5
                """);
    }

    private static void closes() {
        Script.run("promise 11", LEAST_RING + """
                closes -1 0 = BEYOND
                closes 81 0 = BEYOND
                closes 0 -1 = BEYOND
                closes 0 4 = BEYOND
                closes 0 0 = 1
                closes 0 1 = 1
                closes 0 2 = 0
                closes 0 3 = 0
                closes 1 1 = 1
                closes 1 2 = 1
                closes 1 0 = 0
                closes 9 3 = 1
                closes 2 2 = 0
                path 0 0 = 4
                path 9 0 = 4
                lean 10 = 1
                closes 0 0 = 0
                lean 10 = 0
                clear 10 = 1
                thing 10 2 0 = 4
                closes 0 0 = 1
                clear 10 = 2
                thing 10 3 0 = 4
                closes 0 0 = 0
                """);
        Script.run("promise 11: a free field in a ring", """
                floor 4 3 = 0
                thing 0 1 0 = 1
                thing 2 1 1 = 2
                thing 20 1 0 = 3
                thing 18 1 1 = 4
                closes 1 0 = 1
                closes 1 1 = 0
                closes 9 3 = 1
                path 9 3 = 8
                lamp 1 0 0 = 0
                closes 1 0 = 1
                thing 9 0 0 = 5
                closes 1 0 = 0
                path 1 0 = 6
                """);
    }

    private static void spread() {
        Script.run("promise 12: one half", """
                spread -1 0 false = BEYOND
                spread 81 0 true = BEYOND
                spread 0 -1 false = BEYOND
                spread 0 4 true = BEYOND
                spread 0 0 false = 9
                spread 0 0 true = 9
                spread 0 2 false = 1
                spread 0 2 true = 1
                thing 40 2 0 = 1
                spread 36 0 false = 14
                spread 36 0 true = 13
                spread 40 0 false = 5
                spread 40 0 true = 5
                lean 40 = 1
                spread 37 0 false = 13
                spread 37 0 true = 12
                thing 42 0 0 = 2
                spread 36 0 false = 11
                thing 31 2 0 = 3
                spread 36 0 false = 11
                lean 40 = 0
                spread 36 0 false = 16  # 4, then 40 twice and 41; 31 twice, 3 above it, 4 to its right
                spread 36 0 true = 14
                """);
        Script.run("promise 12: a ring with a half", LEAST_RING + """
                spread 0 0 false = 4
                spread 0 0 true = 4
                clear 10 = 1
                thing 10 2 0 = 4
                spread 0 0 false = 12
                spread 0 0 true = 11
                """);
    }

    private static void sees() {
        Script.run("promise 13", """
                sees -1 0 = BEYOND
                sees 0 -1 = BEYOND
                sees 81 0 = BEYOND
                sees 0 81 = BEYOND
                sees 36 44 = 1
                sees 44 36 = 4
                sees 4 76 = 2
                sees 76 4 = 8
                sees 0 10 = 0
                sees 36 36 = 0
                thing 40 0 0 = 1
                sees 36 40 = 0
                sees 36 44 = 0
                sees 36 39 = 1
                sees 40 44 = 1
                sees 40 36 = 4
                sees 40 40 = 0
                clear 40 = 0
                thing 40 3 0 = 1
                sees 36 40 = 0
                sees 40 4 = 8
                lamp 36 0 0 = 0
                open = 1
                sees 36 40 = 1
                sees 36 44 = 1
                clear 40 = 3
                thing 40 2 0 = 1
                sees 36 44 = 1
                sees 36 4 = 1
                sees 36 76 = 0
                sees 36 40 = 1
                sees 40 76 = 2
                """);
        Script.run("promise 13: itself and others, by several ways", LEAST_RING + """
                sees 0 0 = 3
                sees 0 10 = 3
                sees 10 10 = 12
                sees 1 9 = 6
                clear 0 = 1
                sees 0 0 = 3    # it comes again with another way
                sees 0 10 = 3
                sees 10 10 = 0
                sees 10 0 = 12
                """);
    }

    private static void seen() {
        Script.run("promise 14", """
                seen -1 = BEYOND
                seen 81 = BEYOND
                seen 40 = 16
                seen 0 = 16
                thing 40 0 0 = 1
                seen 40 = 0
                seen 39 = 12    # 8 in its column, 3 to the left, and the wall's field
                seen 44 = 12
                clear 40 = 0
                thing 40 3 0 = 1
                seen 40 = 0
                seen 39 = 12
                clear 40 = 3
                thing 40 1 0 = 1
                seen 40 = 16
                seen 36 = 16    # 8 in its column, 4 to its right till the mirror, 4 above that
                clear 40 = 1
                thing 40 2 0 = 1
                seen 36 = 20
                floor 1 1 = 0
                seen 0 = 0
                floor 3 1 = 0
                seen 1 = 2
                """);
        Script.run("promise 14: a ring", LEAST_RING + """
                seen 0 = 4     # the four of the ring, itself too
                seen 1 = 11    # those, and 7 to its right
                clear 0 = 1
                seen 0 = 4
                seen 10 = 17   # 0, 1 and 9; 7 to its right and 7 below
                """);
    }

    private static void rings() {
        Script.run("promise 15", LEAST_RING + """
                rings = 2
                lean 0 = 1
                rings = 0
                lean 0 = 0
                rings = 2
                thing 4 1 0 = 5
                thing 6 4 1 = 6
                thing 24 2 0 = 7
                thing 22 1 1 = 8
                rings = 4
                thing 14 0 0 = 9
                rings = 4
                thing 13 0 0 = 10
                rings = 2
                clear 13 = 0
                floor 6 9 = 7
                rings = 2
                floor 1 9 = 2
                rings = 0
                """);
    }

    private static void ring() {
        Script.run("promise 16", LEAST_RING + """
                ring -1 false = NONE
                ring 2 false = NONE
                ring 2 true = NONE
                ring -2147483648 true = NONE
                ring 2147483647 true = NONE
                ring 0 false = 4
                ring 0 true = 0
                ring 1 false = 4
                ring 1 true = 1
                thing 4 1 0 = 5
                thing 6 4 1 = 6
                thing 24 2 0 = 7
                thing 22 1 1 = 8
                ring 2 false = 8
                ring 2 true = 16
                ring 3 false = 8
                ring 3 true = 17
                ring 4 false = NONE
                clear 9 = 1
                ring 0 false = 8
                ring 0 true = 16
                ring 2 true = NONE
                """);
    }
}
