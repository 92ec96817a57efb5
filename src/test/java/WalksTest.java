/** Promises 26 to 29: walks. */
public final class WalksTest {
    public static void main(String[] args) {
        far();
        first();
        reach();
        visit();
        Script.end("WalksTest");
    }

    private static void far() {
        Script.run("promise 26", """
                far -1 0 = BEYOND
                far 0 -1 = BEYOND
                far 81 0 = BEYOND
                far 0 81 = BEYOND
                far 0 80 = 16
                far 80 0 = 16
                far 40 40 = 0
                floor 3 3 = 0
                thing 1 0 0 = 1
                thing 10 1 0 = 2
                far 0 2 = 6
                far 0 1 = NONE
                far 1 0 = NONE
                far 1 1 = NONE
                far 10 10 = NONE
                thing 19 3 0 = 3
                far 0 2 = NONE
                lamp 18 0 0 = 0
                far 0 18 = 2
                open = 1
                far 0 2 = 6
                far 0 19 = 3
                far 19 19 = 0
                shut 19 = 1
                far 19 0 = NONE
                """);
    }

    private static void first() {
        Script.run("promise 27", """
                first -1 0 = BEYOND
                first 0 -1 = BEYOND
                first 81 0 = BEYOND
                first 0 81 = BEYOND
                first 0 0 = NONE
                first 0 80 = 0
                first 80 0 = 2
                first 8 72 = 1
                first 72 8 = 0
                first 0 72 = 1
                first 72 0 = 3
                first 8 0 = 2
                first 0 1 = 0
                first 1 0 = 2
                first 9 0 = 3
                floor 3 3 = 0
                thing 1 0 0 = 1
                thing 10 2 0 = 2
                first 0 2 = 1
                first 18 2 = 0
                first 2 0 = 1
                first 1 0 = NONE
                first 0 1 = NONE
                first 10 10 = NONE
                first 0 0 = NONE    # with a wall beside it
                thing 19 4 0 = 3
                first 0 2 = NONE
                """);
    }

    private static void reach() {
        Script.run("promise 28", """
                reach -1 = BEYOND
                reach 81 = BEYOND
                reach 0 = 81
                floor 4 4 = 0
                reach 0 = 16
                reach 4 = BEYOND
                thing 1 0 0 = 1
                thing 10 1 0 = 2
                thing 19 2 0 = 3
                thing 28 3 0 = 4
                reach 0 = 4
                reach 2 = 8
                reach 1 = NONE
                reach 10 = NONE
                reach 19 = NONE
                reach 28 = NONE
                lamp 27 0 0 = 0
                reach 27 = 4
                open = 1
                reach 0 = 13
                reach 28 = 13
                """);
    }

    private static void visit() {
        Script.run("promise 29: findings and a bare floor", """
                visit -1 0 = BEYOND
                visit 0 -1 = BEYOND
                visit 81 0 = BEYOND
                visit 0 81 = BEYOND
                visit 0 0 = 0
                visit 0 80 = 16
                visit 80 0 = 16
                thing 1 0 0 = 1
                thing 9 0 0 = 2
                visit 0 0 = 0
                visit 0 2 = NONE
                visit 2 0 = NONE
                visit 1 2 = NONE
                visit 2 1 = NONE
                visit 1 1 = NONE
                """);
        Script.run("promise 29: led astray, and back where it was", """
                floor 5 3 = 0
                thing 3 1 1 = 1
                thing 10 0 0 = 2
                thing 11 0 0 = 3
                far 0 21 = 5
                visit 0 21 = NONE
                visit 1 21 = NONE
                visit 2 21 = NONE
                visit 9 21 = 4
                visit 18 21 = 3
                """);
        Script.run("promise 29: led by the least way, not the shortest", """
                floor 5 3 = 0
                thing 3 1 1 = 1
                thing 21 1 0 = 2
                far 0 18 = 2
                sees 0 18 = 3
                visit 0 18 = 6
                visit 9 18 = 1
                visit 2 18 = 4
                """);
        Script.run("promise 29: through a half and an open door", """
                floor 5 3 = 0
                thing 3 2 1 = 1
                thing 21 1 0 = 2
                visit 0 18 = 6
                thing 1 3 1 = 3
                visit 0 18 = 2
                lamp 0 0 1 = 0
                open = 1
                visit 0 18 = 6
                """);
    }
}
