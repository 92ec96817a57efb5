/** The boundary cases of promises 30 to 33, sentence by sentence. */
public final class SheetsEdgesTest {
    /** Sheet 0 with 5 numbers of 8 bits, sheet 1 with 3. */
    private static final String TWO_SHEETS = "sheet 0 8 5 = 5; sheet 1 8 3 = 3\n";
    private static final String TELLING = "put 0 0 1 = 0; put 0 1 2 = 0; put 0 2 4 = 0; put 0 3 6 = 0; put 0 4 3 = 0\n";

    public static void main(String[] args) {
        sheetBeyond();
        sheetOrder();
        sheetMissing();
        sheetIsAllZero();
        putBeyond();
        putLowestBits();
        copyFindings();
        copyOrder();
        copyParts();
        rowFindings();
        rowNumbers();
        rowLeaves();
        Script.end("SheetsEdgesTest");
    }

    private static void sheetBeyond() {
        Edges.limits("promise 30: no such sheet", "", "sheet N 8 1", 0, 3);
        for (int bits : new int[] {0, 8, 16, 32}) {
            Edges.limits("promise 30: no such bits", "", "sheet 0 N 1", bits, bits);
        }
        Script.run("promise 30: no such bits, between and beside", """
                sheet 0 1 1 = BEYOND; sheet 0 4 1 = BEYOND; sheet 0 24 1 = BEYOND; sheet 0 64 1 = BEYOND; sheet 0 -8 1 = BEYOND
                sheet 0 -32 1 = BEYOND; sheet 0 -2147483648 1 = BEYOND; put 0 0 0 = MISSING
                """);
        Script.run("promise 30: n, the least and the most, of each bits", """
                sheet 0 8 0 = 0; sheet 0 8 30 = 30; sheet 1 16 0 = 0; sheet 1 16 30 = 30; sheet 2 32 0 = 0
                sheet 2 32 30 = 30; sheet 3 8 1 = 1
                put 0 29 0 = 0; put 1 29 0 = 0; put 2 29 0 = 0; put 0 30 0 = BEYOND; put 1 30 0 = BEYOND; put 2 30 0 = BEYOND
                """);
        Script.run("promise 30: SIZE, n is below 0", """
                sheet 0 8 -1 = SIZE; sheet 0 16 -1 = SIZE; sheet 0 32 -2147483648 = SIZE; put 0 0 0 = MISSING
                """);
        Script.run("promise 30: BEYOND, n is above 30", """
                sheet 0 8 31 = BEYOND; sheet 0 16 31 = BEYOND; sheet 0 32 2147483647 = BEYOND; put 0 0 0 = MISSING
                """);
    }

    private static void sheetOrder() {
        Script.run("promise 30: no such sheet is asked ahead of SIZE", """
                sheet 4 8 -1 = BEYOND; sheet -1 8 -1 = BEYOND; sheet 3 8 -1 = SIZE
                """);
        Script.run("promise 30: no such bits is asked ahead of SIZE", """
                sheet 0 9 -1 = BEYOND; sheet 0 -1 -1 = BEYOND; sheet 0 8 -1 = SIZE
                """);
        Script.run("promise 30: a refused sheet stays as it was", TWO_SHEETS + TELLING + """
                sheet 0 8 31 = BEYOND; sheet 0 8 -1 = SIZE; sheet 0 9 0 = BEYOND; put 0 5 0 = BEYOND; row 0 0 = 5; all 1 = 5
                """);
    }

    private static void sheetMissing() {
        Script.run("promise 30: bits 0, it is MISSING", TWO_SHEETS + """
                sheet 0 0 0 = 0; put 0 0 0 = MISSING; row 0 0 = MISSING; copy 0 0 1 0 0 = MISSING; put 1 0 0 = 0
                """);
        Script.run("promise 30: bits 0, what was MISSING stays so", "sheet 3 0 0 = 0; put 3 0 0 = MISSING; all 5 = 1");
        Script.run("promise 30: bits 0, the answer is 0", TWO_SHEETS + """
                sheet 0 0 30 = 0; put 0 0 0 = MISSING; sheet 1 0 1 = 0; put 1 0 0 = MISSING
                """);
        Script.run("promise 30: bits 0, SIZE and BEYOND of n are asked, too", TWO_SHEETS + """
                sheet 0 0 -1 = SIZE; sheet 0 0 31 = BEYOND; put 0 4 0 = 0
                """);
        Script.run("promise 30: a sheet of 0 numbers is not MISSING", """
                sheet 0 8 0 = 0; put 0 0 0 = BEYOND; put 0 -1 0 = BEYOND; row 0 0 = 0; copy 0 0 0 0 0 = 0; copy 0 0 0 0 1 = BEYOND
                """);
        Script.run("promise 30: what was MISSING comes again, all 0", TWO_SHEETS + TELLING + """
                sheet 0 0 0 = 0; sheet 0 8 5 = 5; thing 4 0 0 = 1; row 0 0 = 5; all 1 = 0
                """);
    }

    private static void sheetIsAllZero() {
        Script.run("promise 30: all 0, also if it had numbers", TWO_SHEETS + TELLING + "sheet 0 8 5 = 5; row 0 0 = 5; all 1 = 0");
        Script.run("promise 30: all 0, also behind the old end", TWO_SHEETS + TELLING + """
                sheet 0 8 1 = 1; sheet 0 8 9 = 9; row 0 0 = 9; all 1 = 0
                """);
        Script.run("promise 30: other sheets stay as they are", TWO_SHEETS + TELLING + """
                sheet 1 8 30 = 30; sheet 2 16 30 = 30; row 0 0 = 5; all 1 = 5; at 4 1 = 1
                """);
        Script.run("promise 30: the last number of one sheet is not the first of the next", """
                sheet 0 8 30 = 30; sheet 1 8 30 = 30; sheet 2 8 30 = 30; sheet 3 8 30 = 30; put 0 29 1 = 0; put 2 29 1 = 0
                row 0 1 = 9; row 1 2 = 9; row 2 3 = 9; all 1 = 0; copy 0 29 0 0 1 = 1; row 0 0 = 9; at 0 0 = 0; all 1 = 1
                """);
    }

    private static void putBeyond() {
        Edges.limits("promise 31: no such sheet", "sheet 0 8 1; sheet 1 8 1; sheet 2 8 1; sheet 3 8 1", "put N 0 0", 0, 3);
        Edges.limits("promise 31: no such number, of 5", TWO_SHEETS, "put 0 N 0", 0, 4);
        Edges.limits("promise 31: no such number, of 1", "sheet 0 16 1", "put 0 N 0", 0, 0);
        Edges.limits("promise 31: no such number, of none", "sheet 0 32 0", "put 0 N 0", 0, -1);
        Edges.limits("promise 31: no such number, of 30", "sheet 3 32 30", "put 3 N 0", 0, 29);
        Script.run("promise 31: no such sheet is asked ahead of MISSING", """
                put 4 0 0 = BEYOND; put -1 0 0 = BEYOND; put 3 0 0 = MISSING
                """);
        Script.run("promise 31: MISSING is asked ahead of no such number", """
                put 0 -1 0 = MISSING; put 0 30 0 = MISSING; put 0 2147483647 0 = MISSING
                """);
        Script.run("promise 31: only that number becomes v", TWO_SHEETS + """
                put 0 2 1 = 0; row 0 0 = 5; all 1 = 1; at 2 0 = 0; row 1 1 = 3; all 1 = 1
                """);
    }

    /** What a number becomes is seen by a row: 0 to 8 tell a FIELD, others leave the MIRROR there. */
    private static String seenAs(int bits, String v, String kind, String colour) {
        boolean isTold = !colour.isEmpty();
        return "sheet 0 " + bits + " 1 = 1; thing 0 1 1 = 1; put 0 0 " + v + " = 0\n"
                + "row 0 0 = " + (isTold ? 1 : 0) + "; at 0 0 = " + kind + "; at 0 1 = " + (isTold ? colour : "1") + "\n";
    }

    private static void lowest(int bits, String v, String kind, String colour) {
        Script.run("promise 31: the lowest " + bits + " bits of " + v, seenAs(bits, v, kind, colour));
    }

    private static void left(int bits, String v) {
        Script.run("promise 31: the lowest " + bits + " bits of " + v + " tell nothing", seenAs(bits, v, "1", ""));
    }

    private static void putLowestBits() {
        for (String v : new String[] {"0", "256", "-256", "65536", "2147483392", "-2147483648"}) {
            lowest(8, v, "-1", "0");
        }
        for (String v : new String[] {"8", "264", "-248", "65544", "-2147483640"}) {
            lowest(8, v, "3", "2");
        }
        for (String v : new String[] {"9", "255", "-1", "265", "511", "2147483647"}) {
            left(8, v);
        }
        for (String v : new String[] {"0", "65536", "-65536", "-2147483648"}) {
            lowest(16, v, "-1", "0");
        }
        for (String v : new String[] {"8", "65544", "-65528", "-2147483640"}) {
            lowest(16, v, "3", "2");
        }
        for (String v : new String[] {"9", "256", "264", "-248", "65535", "-1", "-65536257", "2147483647"}) {
            left(16, v);
        }
        lowest(32, "0", "-1", "0");
        lowest(32, "8", "3", "2");
        for (String v : new String[] {
            "9", "256", "65536", "65544", "-1", "-8", "-65528", "2147483647", "-2147483648", "-2147483640"}) {
            left(32, v);
        }
        Script.run("promise 31: lowest bits stay lowest bits when they are copied", """
                sheet 0 8 1 = 1; put 0 0 257 = 0; sheet 1 8 1 = 1; copy 0 0 1 0 1 = 1; row 0 1 = 1; at 0 0 = 0
                """);
    }

    private static void copyFindings() {
        String four = "sheet 0 8 1; sheet 1 8 1; sheet 2 8 1; sheet 3 8 1";
        Edges.limits("promise 32: no such sheet, the one", four, "copy N 0 0 0 1", 0, 3);
        Edges.limits("promise 32: no such sheet, the other", four, "copy 0 0 N 0 1", 0, 3);
        Edges.limits("promise 32: the one has not so many, from", TWO_SHEETS, "copy 0 N 1 0 2", 0, 3);
        Edges.limits("promise 32: the other has not so many, to", TWO_SHEETS, "copy 0 0 1 N 2", 0, 1);
        Edges.limits("promise 32: the one has not so many, n", TWO_SHEETS, "copy 1 1 0 0 N", 0, 2);
        Edges.limits("promise 32: the other has not so many, n", TWO_SHEETS, "copy 0 0 1 1 N", 0, 2);
        Edges.limits("promise 32: from, of no numbers", TWO_SHEETS, "copy 0 N 1 0 0", 0, 5);
        Edges.limits("promise 32: to, of no numbers", TWO_SHEETS, "copy 0 0 1 N 0", 0, 3);
        Script.run("promise 32: MISSING, the one, the other, both", """
                sheet 0 8 1 = 1; copy 1 0 0 0 1 = MISSING; copy 0 0 1 0 1 = MISSING; copy 1 0 2 0 1 = MISSING
                copy 1 0 1 0 0 = MISSING
                """);
        Script.run("promise 32: KIND, each two that are not of as many bits", """
                sheet 0 8 1 = 1; sheet 1 16 1 = 1; sheet 2 32 1 = 1; copy 0 0 1 0 1 = KIND; copy 0 0 2 0 1 = KIND
                copy 1 0 0 0 1 = KIND
                copy 1 0 2 0 1 = KIND; copy 2 0 0 0 1 = KIND; copy 2 0 1 0 1 = KIND; copy 0 0 0 0 1 = 1; copy 1 0 1 0 1 = 1
                copy 2 0 2 0 1 = 1
                """);
        Script.run("promise 32: from, to or n is below 0", TWO_SHEETS + """
                copy 0 -1 1 0 1 = BEYOND; copy 0 0 1 -1 1 = BEYOND; copy 0 0 1 0 -1 = BEYOND; copy 0 1 1 1 -1 = BEYOND
                copy 0 -1 1 -1 1 = BEYOND
                copy 0 -1 1 0 0 = BEYOND; copy 0 0 1 -1 0 = BEYOND; copy 0 -2147483648 1 0 -2147483648 = BEYOND
                """);
        Script.run("promise 32: sums that would wrap around", TWO_SHEETS + """
                copy 0 2147483647 1 0 1 = BEYOND; copy 0 1 1 0 2147483647 = BEYOND; copy 0 0 1 2147483647 1 = BEYOND
                copy 0 2147483647 1 2147483647 2147483647 = BEYOND; copy 0 2147483647 1 0 0 = BEYOND
                copy 0 0 1 2147483646 2 = BEYOND
                """);
    }

    private static void copyOrder() {
        Script.run("promise 32: no such sheet is asked ahead of MISSING", """
                copy 0 0 4 0 1 = BEYOND; copy 4 0 0 0 1 = BEYOND; copy 0 0 -1 0 1 = BEYOND; copy -1 0 0 0 1 = BEYOND
                copy 0 0 0 0 1 = MISSING
                """);
        Script.run("promise 32: MISSING is asked ahead of KIND and of its parts", """
                sheet 0 8 1 = 1; copy 0 0 1 0 1 = MISSING; copy 0 -1 1 0 1 = MISSING; copy 1 0 0 0 31 = MISSING
                copy 1 0 2 0 -1 = MISSING
                """);
        Script.run("promise 32: KIND is asked ahead of its parts", """
                sheet 0 8 1 = 1; sheet 1 16 1 = 1; copy 0 2 1 0 1 = KIND; copy 0 0 1 0 2 = KIND; copy 0 0 1 0 -1 = KIND
                copy 0 -1 1 0 0 = KIND
                """);
    }

    private static void copyParts() {
        Script.run("promise 32: no numbers", TWO_SHEETS + TELLING + """
                copy 0 0 1 0 0 = 0; copy 0 5 1 3 0 = 0; row 0 1 = 3; all 1 = 0
                """);
        Script.run("promise 32: all numbers", TWO_SHEETS + TELLING + """
                sheet 1 8 5 = 5; copy 0 0 1 0 5 = 5; row 0 1 = 5; all 1 = 5; at 0 0 = 0; at 4 1 = 1
                """);
        Script.run("promise 32: the last number alone", TWO_SHEETS + TELLING + """
                copy 0 4 1 2 1 = 1; row 0 1 = 3; all 1 = 1; at 2 0 = 1; at 2 1 = 1
                """);
        Script.run("promise 32: 30 numbers", """
                sheet 2 32 30 = 30; sheet 3 32 30 = 30; put 2 0 1 = 0; put 2 29 1 = 0; copy 2 0 3 0 30 = 30; row 0 3 = 9
                at 0 0 = 0; copy 3 29 3 1 1 = 1; row 0 3 = 9; at 1 0 = 0
                """);
        Script.run("promise 32: to itself, where it stands", TWO_SHEETS + TELLING + """
                copy 0 0 0 0 5 = 5; row 0 0 = 5; at 0 0 = 0; at 1 0 = 1; at 2 0 = 2; at 3 0 = 3; at 4 1 = 1
                """);
        Script.run("promise 32: to itself, upward over its own", TWO_SHEETS + TELLING + """
                copy 0 0 0 1 4 = 4; row 0 0 = 5; at 0 0 = 0; at 1 0 = 0; at 2 0 = 1; at 3 0 = 2; at 4 0 = 3
                """);
        Script.run("promise 32: to itself, downward over its own", TWO_SHEETS + TELLING + """
                copy 0 1 0 0 4 = 4; row 0 0 = 5; at 0 0 = 1; at 1 0 = 2; at 2 0 = 3; at 3 0 = 1; at 3 1 = 1; at 4 0 = 1
                """);
        Script.run("promise 32: the one stays as it is", TWO_SHEETS + TELLING + """
                copy 0 0 1 0 3 = 3; put 1 0 0 = 0; row 0 0 = 5; all 1 = 5; at 0 0 = 0
                """);
    }

    private static void rowFindings() {
        Edges.limits("promise 33: no such row", "sheet 0 8 1", "row N 0", 0, 8);
        Edges.limits("promise 33: no such row of a small FLOOR", "floor 9 3; sheet 0 8 1", "row N 0", 0, 2);
        Edges.limits("promise 33: no such row of a FLOOR of one", "floor 9 1; sheet 0 8 1", "row N 0", 0, 0);
        Edges.limits("promise 33: no such sheet", "sheet 0 8 1; sheet 1 8 1; sheet 2 8 1; sheet 3 8 1", "row 0 N", 0, 3);
        Script.run("promise 33: MISSING", """
                row 0 0 = MISSING; row 8 3 = MISSING; sheet 0 8 0 = 0; row 0 0 = 0; sheet 0 0 0 = 0; row 0 0 = MISSING
                """);
        Script.run("promise 33: BEYOND is asked ahead of MISSING", """
                row 9 0 = BEYOND; row -1 0 = BEYOND; row 0 4 = BEYOND; row 0 -1 = BEYOND; floor 9 3 = 0; row 3 0 = BEYOND
                row 2 0 = MISSING
                """);
    }

    private static void rowNumbers() {
        String[][] tells = {
            {"-1", "0"}, {"0", "0"}, {"1", "0"}, {"1", "1"}, {"2", "0"}, {"2", "1"}, {"3", "0"}, {"3", "1"}, {"3", "2"}};
        for (int number = 0; number < tells.length; number++) {
            String tell = "sheet 0 16 1 = 1; put 0 0 " + number + " = 0\n";
            String told = "row 4 0 = 1; at 36 0 = " + tells[number][0] + "; at 36 1 = " + tells[number][1]
                    + "; at 36 2 = 0; at 37 0 = -1\n";
            Script.run("promise 33: " + number + " on a free FIELD", tell + told);
            Script.run("promise 33: " + number + " over a TABLE", tell + "thing 36 4 1 = 1\n" + told + "all 3 = 0");
            Script.run("promise 33: " + number + " over an OPEN DOOR",
                    tell + "thing 36 3 2 = 1; lamp 37 2 2 = 0; open = 1\n" + told + "all 4 = 0");
        }
        Script.run("promise 33: 9 and others tell nothing", """
                sheet 0 32 5 = 5; put 0 0 9 = 0; put 0 1 -1 = 0; put 0 2 10 = 0; put 0 3 2147483647 = 0; put 0 4 -2147483648 = 0
                thing 0 4 1 = 1; thing 1 0 0 = 2; row 0 0 = 0; at 0 0 = 4; at 0 1 = 1; at 1 0 = 0; at 2 0 = -1; all 1 = 2
                """);
        Script.run("promise 33: a row makes no TABLE, and is never FULL", """
                sheet 0 8 9 = 9; put 0 0 5 = 0; row 0 0 = 9; all 3 = 0; thing 1 4 0 = 2; put 0 1 9 = 0; row 0 0 = 8; all 3 = 1
                """);
    }

    private static void rowLeaves() {
        Script.run("promise 33: FIELDS with LAMPS are left as they are, and are not told", """
                sheet 0 8 3 = 3; put 0 0 1 = 0; put 0 1 1 = 0; put 0 2 1 = 0; lamp 1 0 0 = 0; row 0 0 = 2; at 1 0 = -1
                at 1 3 = 0; at 0 0 = 0
                put 0 1 0 = 0; row 0 0 = 2; at 1 3 = 0; out = 0; row 0 0 = 3
                """);
        Script.run("promise 33: FIELDS behind the sheet's end are left as they are", """
                sheet 0 8 2 = 2; thing 1 1 0 = 1; thing 2 1 1 = 2; thing 8 0 0 = 3; row 0 0 = 2; at 1 0 = -1; at 2 0 = 1
                at 8 0 = 0; all 1 = 2
                """);
        Script.run("promise 33: a sheet of 0 numbers tells none", "sheet 0 8 0 = 0; thing 0 0 0 = 1; row 0 0 = 0; at 0 0 = 0");
        Script.run("promise 33: a sheet as long as the row, and a longer one", """
                floor 3 2 = 0; sheet 0 8 3 = 3; put 0 2 1 = 0; row 0 0 = 3; at 2 0 = 0; sheet 1 8 30 = 30; put 1 3 1 = 0
                put 1 9 1 = 0
                row 1 1 = 3; all 1 = 1; at 9 0 = -1; floor 9 9 = 1; at 12 0 = -1
                """);
        Script.run("promise 33: other rows are left as they are", """
                sheet 0 8 9 = 9; thing 0 0 0 = 1; thing 18 0 0 = 2; thing 9 0 0 = 3; row 1 0 = 9; at 0 0 = 0; at 18 0 = 0
                at 9 0 = -1
                """);
        Script.run("promise 33: the first row and the last", """
                sheet 0 8 9 = 9; put 0 0 1 = 0; put 0 8 1 = 0; row 0 0 = 9; row 8 0 = 9; at 0 0 = 0; at 8 0 = 0; at 72 0 = 0
                at 80 0 = 0; all 1 = 4
                """);
        Script.run("promise 33: the sheet stays as it is", """
                sheet 0 8 1 = 1; put 0 0 1 = 0; row 0 0 = 1; row 8 0 = 1; at 0 0 = 0; at 72 0 = 0
                """);
    }
}
