/** Promises 1 to 8: a new object, and the floor. */
public final class FloorTest {
    public static void main(String[] args) {
        newObject();
        floor();
        thing();
        clear();
        as();
        at();
        lean();
        shut();
        Script.end("FloorTest");
    }

    private static void newObject() {
        Script.run("promise 1", """
                all 5 = 0
                all 0 = 81
                all 1 = 0
                all 2 = 0
                all 3 = 0
                all 4 = 0
                at 0 0 = -1
                at 80 0 = -1
                at 80 3 = -1
                reach 40 = 81
                rings = 0
                opened false = 0
                bright 0 = 0
                all 5 = 0
                put 0 0 0 = MISSING
                put 1 0 0 = MISSING
                put 2 0 0 = MISSING
                put 3 0 0 = MISSING
                undo = NONE
                out = NONE
                turn 1 = BEYOND
                """);
    }

    private static void floor() {
        Script.run("promise 2: findings", """
                floor 0 3 = BEYOND
                floor 10 3 = BEYOND
                floor 3 0 = BEYOND
                floor 3 10 = BEYOND
                floor -1 -1 = BEYOND
                floor -2147483648 2147483647 = BEYOND
                all 0 = 81
                undo = NONE
                """);
        Script.run("promise 2: fields", """
                floor 2 3 = 0
                all 0 = 6
                at 1 0 = -1
                at 2 0 = BEYOND
                at 18 0 = -1
                at 19 0 = -1
                at 20 0 = BEYOND
                at 27 0 = BEYOND
                at -1 0 = BEYOND
                floor 1 1 = 0
                all 0 = 1
                at 0 0 = -1
                at 1 0 = BEYOND
                at 9 0 = BEYOND
                floor 9 9 = 0
                at 80 0 = -1
                at 81 0 = BEYOND
                """);
        Script.run("promise 2: what stands beyond goes", """
                thing 8 0 0 = 1
                thing 72 1 1 = 2
                thing 0 3 2 = 3
                lamp 80 0 0 = 0
                lamp 1 1 1 = 1
                lamp 7 2 2 = 2
                floor 9 9 = 6
                floor 8 9 = 4
                all 1 = 2
                all 2 = 2
                at 1 3 = 0
                at 7 3 = 1
                lit 1 = 6       # the lamp at 7 shines there, too
                lit 7 = 4
                floor 9 9 = 4
                at 8 0 = -1
                at 80 3 = -1
                at 72 1 = 1
                face 0 0 = 1
                face 1 0 = 2
                floor 9 8 = 3
                floor 9 9 = 3
                at 72 0 = -1
                floor 1 1 = 1
                at 0 1 = 2
                all 2 = 0
                """);
        Script.run("promise 2: open doors beyond go too", """
                lamp 0 0 0 = 0
                thing 4 3 0 = 1
                open = 1
                all 4 = 1
                floor 4 1 = 1
                all 4 = 0
                floor 9 9 = 1
                at 4 0 = -1
                at 4 2 = 0
                thing 4 3 0 = 1
                at 4 2 = 0
                """);
    }

    private static void thing() {
        Script.run("promise 3: findings", """
                thing -1 0 0 = BEYOND
                thing 81 0 0 = BEYOND
                thing 2147483647 0 0 = BEYOND
                thing -2147483648 0 0 = BEYOND
                thing 0 5 0 = BEYOND
                thing 0 -1 0 = BEYOND
                thing 0 0 1 = BEYOND
                thing 0 0 -1 = BEYOND
                thing 0 1 2 = BEYOND
                thing 0 1 -1 = BEYOND
                thing 0 2 2 = BEYOND
                thing 0 2 -1 = BEYOND
                thing 0 3 3 = BEYOND
                thing 0 3 -1 = BEYOND
                thing 0 4 2 = BEYOND
                thing 0 4 -1 = BEYOND
                all 1 = 0
                floor 3 3 = 0
                thing 3 0 0 = BEYOND
                thing 27 0 0 = BEYOND
                thing 20 0 0 = 1
                """);
        Script.run("promise 3: kinds, TAKEN and FULL", """
                thing 0 0 0 = 1
                thing 1 1 1 = 2
                thing 2 2 1 = 3
                thing 3 3 2 = 4
                thing 4 4 1 = 5
                at 3 2 = 0
                thing 0 1 0 = TAKEN
                thing 3 3 0 = TAKEN
                thing 4 4 0 = TAKEN
                thing 0 0 1 = BEYOND
                lamp 5 0 0 = 0
                thing 5 0 0 = TAKEN
                thing 5 0 1 = BEYOND
                thing 9 4 0 = 6
                thing 10 4 0 = 7
                thing 11 4 0 = 8
                thing 12 4 0 = 9
                thing 13 4 0 = 10
                thing 14 4 0 = 11
                thing 15 4 0 = 12
                thing 16 4 0 = 13
                thing 17 4 0 = 14
                all 3 = 10
                thing 18 4 0 = FULL
                thing 0 4 0 = TAKEN
                thing 5 4 0 = TAKEN
                thing 18 4 2 = BEYOND
                all 1 = 14
                thing 18 1 0 = 15
                clear 9 = 4
                thing 19 4 1 = 15
                at 19 1 = 1
                """);
    }

    private static void clear() {
        Script.run("promise 4", """
                clear -1 = BEYOND
                clear 81 = BEYOND
                clear 0 = NONE
                thing 0 0 0 = 1
                thing 1 1 1 = 2
                thing 2 2 1 = 3
                thing 3 3 2 = 4
                thing 4 4 1 = 5
                clear 0 = 0
                clear 1 = 1
                clear 2 = 2
                clear 3 = 3
                clear 4 = 4
                clear 4 = NONE
                at 1 0 = -1
                at 1 1 = 0
                at 3 1 = 0
                all 1 = 0
                lamp 5 0 0 = 0
                clear 5 = NONE
                at 5 3 = 0
                thing 8 3 0 = 1
                open = 1
                clear 8 = 3
                at 8 2 = 0
                all 4 = 0
                thing 8 3 0 = 1
                at 8 2 = 0
                floor 8 8 = 1
                clear 8 = BEYOND
                """);
    }

    private static void as() {
        Script.run("promise 5", """
                as 0 0 = NONE
                as 0 5 = BEYOND
                as 0 -1 = BEYOND
                as 81 0 = BEYOND
                as -1 0 = BEYOND
                thing 10 0 0 = 1
                thing 11 1 0 = 2
                thing 12 2 0 = 3
                thing 13 3 0 = 4
                thing 14 4 0 = 5
                as 10 0 = 10
                as 10 1 = KIND
                as 10 2 = KIND
                as 10 3 = KIND
                as 10 4 = KIND
                as 11 0 = 11
                as 11 1 = 11
                as 11 2 = KIND
                as 11 3 = KIND
                as 11 4 = KIND
                as 12 0 = 12
                as 12 1 = 12
                as 12 2 = 12
                as 12 3 = KIND
                as 12 4 = KIND
                as 13 0 = 13
                as 13 1 = KIND
                as 13 2 = KIND
                as 13 3 = 13
                as 13 4 = KIND
                as 14 0 = 14
                as 14 1 = 14
                as 14 2 = KIND
                as 14 3 = KIND
                as 14 4 = 14
                as 10 5 = BEYOND
                """);
    }

    private static void at() {
        Script.run("promise 6", """
                at 0 -1 = BEYOND
                at 0 4 = BEYOND
                at 81 0 = BEYOND
                at -1 3 = BEYOND
                all 5 = 4
                at 0 0 = -1
                at 0 1 = 0
                at 0 2 = 0
                at 0 3 = -1
                thing 0 0 0 = 1
                thing 1 1 1 = 2
                thing 2 2 1 = 3
                thing 3 3 2 = 4
                thing 4 4 1 = 5
                at 0 0 = 0
                at 1 0 = 1
                at 2 0 = 2
                at 3 0 = 3
                at 4 0 = 4
                at 0 1 = 0
                at 1 1 = 1
                at 2 1 = 1
                at 3 1 = 2
                at 4 1 = 1
                at 1 2 = 0
                at 3 2 = 0
                lamp 12 3 2 = 0
                lamp 20 0 0 = 1
                at 12 0 = -1
                at 12 3 = 0
                at 20 3 = 1
                at 3 3 = -1
                open = 1
                at 3 2 = 1
                all 5 = 4
                """);
    }

    private static void lean() {
        Script.run("promise 7", """
                lean -1 = BEYOND
                lean 81 = BEYOND
                lean 0 = NONE
                thing 0 0 0 = 1
                thing 1 1 1 = 2
                thing 2 2 0 = 3
                thing 3 3 1 = 4
                thing 4 4 1 = 5
                lean 0 = KIND
                lean 3 = KIND
                at 3 1 = 1
                lean 1 = 0
                at 1 1 = 0
                lean 1 = 1
                lean 2 = 1
                lean 4 = 0
                at 2 1 = 1
                at 4 1 = 0
                lamp 5 0 0 = 0
                lean 5 = NONE
                """);
    }

    private static void shut() {
        Script.run("promise 8", """
                shut -1 = BEYOND
                shut 81 = BEYOND
                shut 0 = NONE
                thing 10 0 0 = 1
                thing 11 1 1 = 2
                thing 2 3 0 = 3
                lamp 0 0 0 = 0
                shut 10 = KIND
                shut 11 = KIND
                shut 0 = NONE
                shut 2 = 0
                open = 1
                path 0 0 = 9
                shut 2 = 1
                at 2 2 = 0
                path 0 0 = 2
                shut 2 = 0
                all 4 = 0
                """);
    }
}
