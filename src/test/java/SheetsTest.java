/** Promises 30 to 33: sheets. */
public final class SheetsTest {
    public static void main(String[] args) {
        sheet();
        put();
        copy();
        row();
        Script.end("SheetsTest");
    }

    private static void sheet() {
        Script.run("promise 30", """
                sheet -1 8 1 = BEYOND
                sheet 4 8 1 = BEYOND
                sheet 0 7 1 = BEYOND
                sheet 0 1 1 = BEYOND
                sheet 0 64 1 = BEYOND
                sheet 0 -8 1 = BEYOND
                sheet 4 8 -1 = BEYOND
                sheet 0 7 -1 = BEYOND
                sheet 0 8 -1 = SIZE
                sheet 0 8 -2147483648 = SIZE
                sheet 0 8 31 = BEYOND
                sheet 0 8 2147483647 = BEYOND
                put 0 0 0 = MISSING
                sheet 0 8 30 = 30
                put 0 29 0 = 0
                put 0 30 0 = BEYOND
                sheet 1 16 2 = 2
                put 1 1 0 = 0
                put 1 2 0 = BEYOND
                sheet 2 32 1 = 1
                sheet 3 8 0 = 0
                put 3 0 0 = BEYOND
                sheet 0 0 -1 = SIZE
                sheet 0 0 31 = BEYOND
                put 0 0 0 = 0
                sheet 0 0 5 = 0
                put 0 0 0 = MISSING
                sheet 0 0 0 = 0
                put 0 0 0 = MISSING
                """);
        Script.run("promise 30: all are 0", """
                sheet 0 8 2 = 2
                put 0 0 1 = 0
                put 0 1 1 = 0
                sheet 0 8 31 = BEYOND
                row 0 0 = 2
                all 1 = 2
                sheet 0 16 2 = 2
                row 0 0 = 2
                all 1 = 0
                undo = 1
                all 1 = 2
                sheet 0 0 0 = 0
                sheet 0 8 1 = 1
                row 0 0 = 1
                at 0 0 = -1
                at 1 0 = 0
                """);
    }

    private static void put() {
        Script.run("promise 31: findings", """
                put -1 0 0 = BEYOND
                put 4 0 0 = BEYOND
                put 0 0 0 = MISSING
                put 0 -1 0 = MISSING
                sheet 0 8 3 = 3
                put 0 -1 0 = BEYOND
                put 0 3 0 = BEYOND
                put 0 2147483647 0 = BEYOND
                put 0 -2147483648 0 = BEYOND
                put 0 2 0 = 0
                """);
        Script.run("promise 31: the lowest bits", """
                sheet 0 8 5 = 5
                put 0 0 258 = 0
                put 0 1 -253 = 0
                put 0 2 65540 = 0
                put 0 3 -1 = 0
                put 0 4 256 = 0
                thing 3 1 1 = 1
                thing 4 1 1 = 2
                row 0 0 = 4
                at 0 0 = 1
                at 0 1 = 0
                at 1 0 = 1
                at 1 1 = 1
                at 2 0 = 2
                at 3 0 = 1
                at 4 0 = -1
                sheet 1 16 4 = 4
                put 1 0 258 = 0
                put 1 1 65537 = 0
                put 1 2 -65535 = 0
                put 1 3 -1 = 0
                row 1 1 = 2
                at 9 0 = -1
                at 10 0 = 0
                at 11 0 = 0
                sheet 2 32 4 = 4
                put 2 0 65537 = 0
                put 2 1 -2147483647 = 0
                put 2 2 8 = 0
                put 2 3 257 = 0
                row 2 2 = 1
                at 18 0 = -1
                at 19 0 = -1
                at 20 1 = 2
                """);
    }

    private static void copy() {
        Script.run("promise 32: findings", """
                sheet 0 8 5 = 5
                sheet 1 16 5 = 5
                copy -1 0 0 0 1 = BEYOND
                copy 4 0 0 0 1 = BEYOND
                copy 0 0 -1 0 1 = BEYOND
                copy 0 0 4 0 1 = BEYOND
                copy 2 0 4 0 1 = BEYOND
                copy 2 0 0 0 1 = MISSING
                copy 0 0 2 0 1 = MISSING
                copy 2 0 3 -1 -1 = MISSING
                copy 0 0 1 0 1 = KIND
                copy 0 0 1 0 99 = KIND
                sheet 1 8 3 = 3
                copy 0 0 1 0 4 = BEYOND
                copy 1 0 0 0 4 = BEYOND
                copy 0 -1 1 0 1 = BEYOND
                copy 0 0 1 -1 1 = BEYOND
                copy 0 0 1 0 -1 = BEYOND
                copy 0 3 1 0 3 = BEYOND
                copy 0 0 1 1 3 = BEYOND
                copy 0 6 1 0 0 = BEYOND
                copy 0 0 1 4 0 = BEYOND
                copy 0 1 1 0 2147483647 = BEYOND
                copy 0 2147483647 1 0 2147483647 = BEYOND
                copy 0 2147483647 1 0 1 = BEYOND
                copy 0 0 1 -2147483648 1 = BEYOND
                copy 0 5 1 3 0 = 0
                copy 0 2 1 0 3 = 3
                copy 0 0 0 0 5 = 5
                """);
        Script.run("promise 32: what comes where", """
                floor 5 2 = 0
                sheet 0 8 5 = 5
                put 0 0 1 = 0
                put 0 1 2 = 0
                put 0 2 4 = 0
                put 0 3 6 = 0
                sheet 1 8 4 = 4
                copy 0 1 1 2 2 = 2
                row 0 1 = 4
                at 0 0 = -1
                at 1 0 = -1
                at 2 0 = 1
                at 3 0 = 2
                row 1 0 = 5
                at 9 0 = 0
                at 12 0 = 3
                at 13 0 = -1
                """);
        Script.run("promise 32: within one sheet", """
                floor 5 2 = 0
                sheet 0 16 5 = 5
                put 0 0 1 = 0
                put 0 1 2 = 0
                put 0 2 4 = 0
                put 0 3 6 = 0
                copy 0 0 0 1 4 = 4   # 1 1 2 4 6
                row 0 0 = 5
                at 0 0 = 0
                at 1 0 = 0
                at 2 0 = 1
                at 3 0 = 2
                at 4 0 = 3
                copy 0 1 0 0 4 = 4   # 1 2 4 6 6
                row 1 0 = 5
                at 9 0 = 0
                at 10 0 = 1
                at 11 0 = 2
                at 12 0 = 3
                at 13 0 = 3
                """);
    }

    private static void row() {
        Script.run("promise 33: findings", """
                row -1 0 = BEYOND
                row 9 0 = BEYOND
                row 0 -1 = BEYOND
                row 0 4 = BEYOND
                row 0 0 = MISSING
                row 9 4 = BEYOND
                floor 3 3 = 0
                row 3 0 = BEYOND
                row 2 0 = MISSING
                undo = 0
                """);
        Script.run("promise 33: numbers", """
                sheet 0 8 9 = 9
                put 0 0 0 = 0
                put 0 1 1 = 0
                put 0 2 2 = 0
                put 0 3 3 = 0
                put 0 4 4 = 0
                put 0 5 5 = 0
                put 0 6 6 = 0
                put 0 7 7 = 0
                put 0 8 8 = 0
                thing 72 4 1 = 1
                row 8 0 = 9
                all 3 = 0
                all 1 = 8
                at 72 0 = -1
                at 72 1 = 0
                at 73 0 = 0
                at 74 0 = 1
                at 74 1 = 0
                at 75 0 = 1
                at 75 1 = 1
                at 76 0 = 2
                at 76 1 = 0
                at 77 0 = 2
                at 77 1 = 1
                at 78 0 = 3
                at 78 1 = 0
                at 79 0 = 3
                at 79 1 = 1
                at 80 0 = 3
                at 80 1 = 2
                at 80 2 = 0
                """);
        Script.run("promise 33: what is left as it is", """
                floor 4 4 = 0
                lamp 9 0 0 = 0
                thing 10 3 0 = 1
                thing 11 4 1 = 2
                thing 12 1 1 = 3
                open = 1
                sheet 0 8 3 = 3
                put 0 0 1 = 0
                put 0 1 9 = 0
                put 0 2 255 = 0
                row 1 0 = 0
                at 9 0 = -1
                at 9 3 = 0
                at 10 2 = 1
                at 11 0 = 4
                at 12 1 = 1
                put 0 0 0 = 0
                put 0 1 6 = 0
                put 0 2 0 = 0
                row 1 0 = 2
                at 10 0 = 3
                at 10 2 = 0     # a door that is told anew is not open
                at 11 0 = -1
                at 12 0 = 1
                sheet 1 8 9 = 9
                row 1 1 = 3
                all 1 = 0
                at 9 3 = 0
                sheet 2 8 0 = 0
                row 1 2 = 0
                """);
    }
}
