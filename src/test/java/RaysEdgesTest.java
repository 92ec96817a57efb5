/** The boundary cases of promises 9 to 16, sentence by sentence. */
public final class RaysEdgesTest {
    /** One ray through all 81 FIELDS: down the even columns, up the odd ones, turned at their ends. */
    static final String SNAKE = snake();
    /** A ring around all of THE FLOOR. */
    private static final String WIDEST_RING = """
            thing 0 1 0 = 1; thing 8 1 1 = 2; thing 80 1 0 = 3; thing 72 1 1 = 4
            """;
    /** A ring that goes through FIELD 20 twice, with other WAYS. */
    private static final String EIGHT = """
            thing 22 1 0 = 1; thing 4 1 1 = 2; thing 2 1 0 = 3; thing 38 1 0 = 4; thing 36 1 1 = 5; thing 18 1 0 = 6
            """;

    public static void main(String[] args) {
        beyond();
        goesOut();
        ends();
        mirrors();
        halves();
        pathEdges();
        closed();
        spreadEdges();
        sees();
        seen();
        noRings();
        rings();
        Script.end("RaysEdgesTest");
    }

    private static String snake() {
        StringBuilder text = new StringBuilder();
        int n = 0;
        for (int x = 0; x < 8; x++) {
            int y = x % 2 == 0 ? 8 : 0;
            text.append("thing " + (9 * y + x) + " 1 " + (x % 2 == 0 ? 1 : 0) + " = " + ++n + "\n");
            text.append("thing " + (9 * y + x + 1) + " 1 " + (x % 2 == 0 ? 0 : 1) + " = " + ++n + "\n");
        }
        return text.toString();
    }

    private static void beyond() {
        Edges.fields("promise 9: no such FIELD", "", "path N 0");
        Edges.limits("promise 9: no such WAY", "", "path 40 N", 0, 3);
        Edges.fields("promise 10: no such FIELD", "", "step N 0 0");
        Edges.limits("promise 10: no such WAY", "", "step 40 N 0", 0, 3);
        Edges.limits("promise 10: no such place", "", "step 0 0 N", 0, 8);
        Edges.limits("promise 10: no such place on a PATH of one", "", "step 0 2 N", 0, 0);
        Edges.limits("promise 10: no such place on a CLOSED PATH", WIDEST_RING, "step 0 0 N", 0, 31);
        Edges.limits("promise 10: no such place on the longest PATH", SNAKE, "step 0 1 N", 0, 80);
        Edges.fields("promise 11: no such FIELD", "", "closes N 0");
        Edges.limits("promise 11: no such WAY", "", "closes 40 N", 0, 3);
        Edges.fields("promise 12: no such FIELD", "", "spread N 0 false");
        Edges.fields("promise 12: no such FIELD, of its FIELDS", "", "spread N 0 true");
        Edges.limits("promise 12: no such WAY", "", "spread 40 N false", 0, 3);
        Edges.limits("promise 12: no such WAY, of its FIELDS", "", "spread 40 N true", 0, 3);
        Edges.fields("promise 13: BEYOND, the one", "", "sees N 0");
        Edges.fields("promise 13: BEYOND, the other", "", "sees 0 N");
        Edges.fields("promise 14: BEYOND", "", "seen N");
    }

    private static void goesOut() {
        Script.run("terms 2: out of THE FLOOR it ENDS, at each side of the largest", """
                path 8 0 = 1; path 80 0 = 1; path 72 1 = 1; path 80 1 = 1; path 0 2 = 1; path 72 2 = 1; path 0 3 = 1; path 8 3 = 1
                path 7 0 = 2; path 63 1 = 2; path 1 2 = 2; path 9 3 = 2
                closes 8 0 = 0; spread 8 0 false = 1; spread 8 0 true = 1
                """);
        Script.run("terms 2: out of THE FLOOR it ENDS, at each side of a small one", """
                floor 4 3 = 0; path 3 0 = 1; path 21 1 = 1; path 18 2 = 1; path 3 3 = 1; path 0 0 = 4; path 0 1 = 3
                path 3 2 = 4; path 18 3 = 3
                """);
        Script.run("terms 2: a FLOOR of one FIELD", """
                floor 1 1 = 0; path 0 0 = 1; path 0 1 = 1; path 0 2 = 1; path 0 3 = 1; step 0 3 0 = 3; step 0 3 1 = BEYOND
                spread 0 1 true = 1; sees 0 0 = 0; seen 0 = 0; rings = 0
                """);
        Script.run("terms 2: a row's end is not beside the next row's beginning", """
                sees 8 9 = 0; sees 9 8 = 0; path 8 0 = 1; path 9 2 = 1; far 8 9 = 9
                """);
        Script.run("terms 1: WAYS are x up, y up, x down, y down", """
                step 40 0 1 = 164; step 40 1 1 = 197; step 40 2 1 = 158; step 40 3 1 = 127
                """);
    }

    private static void ends() {
        Script.run("terms 2: to a WALL it ENDS", """
                thing 1 0 0 = 1; path 0 0 = 1; path 2 2 = 1; spread 0 0 true = 1; sees 0 1 = 0
                """);
        Script.run("terms 2: to a DOOR that is not OPEN it ENDS", "thing 1 3 0 = 1; path 0 0 = 1; path 2 2 = 1; sees 0 1 = 0");
        Script.run("terms 2: to an OPEN DOOR it is there with its WAY", """
                thing 1 3 0 = 1; lamp 0 0 0 = 0; open = 1; path 0 0 = 9; step 0 0 1 = 4; sees 0 1 = 1; sees 0 2 = 1
                shut 1 = 1; path 0 0 = 1; sees 0 1 = 0
                """);
        Script.run("terms 2: a LAMP stands at a free FIELD and ends no RAY", "lamp 1 1 0 = 0; path 0 0 = 9; sees 0 8 = 1");
        Script.run("promise 9: a RAY may begin at a WALL or a shut DOOR", """
                thing 40 0 0 = 1; path 40 0 = 5; step 40 0 0 = 160; step 40 0 1 = 164; thing 0 3 0 = 2; path 0 0 = 9
                closes 0 0 = 0
                """);
        Script.run("terms 2: a RAY from a WALL that comes back to it ENDS there", """
                thing 0 0 0 = 1; thing 8 1 1 = 2; thing 80 1 0 = 3; thing 72 1 1 = 4; path 0 0 = 32; closes 0 0 = 0; sees 0 0 = 0
                """);
    }

    private static void mirrors() {
        int[][] changed = {{3, 2, 1, 0}, {1, 0, 3, 2}};
        int[] before = {39, 31, 41, 49};
        for (int kind : new int[] {1, 4, 2}) {
            for (int lean = 0; lean < 2; lean++) {
                StringBuilder text = new StringBuilder("thing 40 " + kind + " " + lean + " = 1\n");
                for (int way = 0; way < 4; way++) {
                    text.append("step " + before[way] + " " + way + " 1 = " + (160 + changed[lean][way]) + "\n");
                    text.append("step 40 " + way + " 0 = " + (160 + way) + "; path 40 " + way + " = 5\n");
                }
                Script.run("terms 2: kind " + kind + " of LEAN " + lean + " changes each WAY", text.toString());
            }
        }
        Script.run("terms 2: a RAY that begins at a MIRROR goes out with the told WAY", """
                thing 0 1 0 = 1; step 0 0 0 = 0; step 0 0 1 = 4; path 0 0 = 9; path 0 2 = 1; path 0 3 = 1; path 0 1 = 9
                """);
        Script.run("terms 2: a MIRROR at the edge turns a RAY out of THE FLOOR", """
                thing 8 1 0 = 1; path 0 0 = 9; step 0 0 8 = 35; step 0 0 9 = BEYOND; lean 8 = 1; path 0 0 = 17
                """);
    }

    private static void halves() {
        Script.run("terms 2: to a HALF it is there with its own WAY, and with the other one", """
                floor 3 3 = 0; thing 10 2 0 = 1; spread 9 0 false = 5; spread 9 0 true = 4; sees 9 11 = 1; sees 9 1 = 1
                sees 9 19 = 0
                lean 10 = 1; sees 9 11 = 1; sees 9 1 = 0; sees 9 19 = 1
                """);
        Script.run("terms 2: THE PATH goes on as by a MIRROR at a HALF", """
                floor 3 3 = 0; thing 10 2 0 = 1; path 9 0 = 3; step 9 0 1 = 43; step 9 0 2 = 7; step 9 0 3 = BEYOND
                """);
        Script.run("terms 2: a RAY that begins at a HALF is not parted there", """
                floor 3 3 = 0; thing 10 2 0 = 1; spread 10 0 false = 2; spread 10 1 false = 2; spread 10 2 true = 2
                spread 10 3 true = 2
                """);
        Script.run("terms 2: parts that END at once, and parts that go out", """
                floor 3 1 = 0; thing 1 2 0 = 1; spread 0 0 false = 4; spread 0 0 true = 3; thing 2 0 0 = 2; spread 0 0 false = 3
                spread 0 0 true = 2
                """);
        Script.run("terms 2: a FLOOR of HALVES", """
                sheet 0 8 9 = 9; put 0 0 4 = 0; put 0 1 4 = 0; put 0 2 4 = 0; put 0 3 4 = 0; put 0 4 4 = 0
                put 0 5 4 = 0; put 0 6 4 = 0; put 0 7 4 = 0; put 0 8 4 = 0
                row 0 0 = 9; row 1 0 = 9; row 2 0 = 9; row 3 0 = 9; row 4 0 = 9; row 5 0 = 9; row 6 0 = 9; row 7 0 = 9
                row 8 0 = 9
                spread 0 0 false = 17; spread 0 0 true = 9     # the upper row, with WAYS 0 and 3
                spread 72 0 false = 145; spread 72 0 true = 73 # all but the left column, with WAYS 0 and 3
                spread 72 3 false = 145; spread 72 3 true = 73 # all but the lower row
                sees 72 8 = 9; sees 72 72 = 0; seen 72 = 80; rings = 0
                """);
    }

    private static void pathEdges() {
        Script.run("promise 9: a PATH has one at least, that from which it comes", """
                path 0 2 = 1; step 0 2 0 = 2; path 80 0 = 1; step 80 0 0 = 320
                """);
        Script.run("promise 10: from 0 on, and the last", """
                step 0 0 0 = 0; step 0 0 8 = 32; step 0 0 9 = BEYOND; step 0 0 -1 = BEYOND
                """);
        Script.run("promise 10: the highest FIELD and WAY", "step 80 3 0 = 323; step 80 3 8 = 35");
        Script.run("promise 9: a PATH through all FIELDS", SNAKE + """
                path 0 1 = 81; step 0 1 0 = 1; step 0 1 8 = 288; step 0 1 9 = 295; step 0 1 80 = 321; step 0 1 81 = BEYOND
                closes 0 1 = 0; spread 0 1 false = 81; spread 0 1 true = 81; path 80 3 = 81; sees 0 80 = 2; sees 80 0 = 8
                seen 80 = 80
                """);
    }

    private static void closed() {
        Script.run("promise 11: a PATH that ENDS is not CLOSED", "closes 0 0 = 0; closes 0 2 = 0; closes 80 3 = 0");
        Script.run("terms 2: CLOSED, the first is told once", WIDEST_RING + """
                path 0 0 = 32; closes 0 0 = 1; step 0 0 31 = 39; step 0 0 32 = BEYOND; path 4 0 = 32; closes 4 0 = 1
                step 4 0 31 = 12
                path 4 2 = 32; closes 4 2 = 1
                """);
        Script.run("terms 2: the first FIELD again with another WAY is not yet CLOSED", EIGHT + """
                path 20 0 = 16; closes 20 0 = 1; step 20 0 8 = 81; spread 20 0 false = 16; spread 20 0 true = 15
                path 20 2 = 16; closes 20 2 = 1; closes 20 1 = 1; closes 20 3 = 1; rings = 2; ring 0 false = 16
                """);
        Script.run("terms 2: the first FIELD again, and it ENDS", EIGHT + """
                clear 36 = 1; path 20 0 = 13; closes 20 0 = 0; sees 20 20 = 9   # by 0 and by 3, not by those that go out
                """);
        Script.run("terms 2: a MIRROR'S FIELD closes only with the WAYS that go into the ring", WIDEST_RING + """
                closes 0 0 = 1; closes 0 1 = 1; closes 0 2 = 0; closes 0 3 = 0; path 0 2 = 1
                closes 80 2 = 1; closes 80 3 = 1; closes 80 0 = 0; closes 80 1 = 0
                """);
    }

    private static void spreadEdges() {
        Script.run("promise 12: one at least", """
                spread 0 2 false = 1; spread 0 2 true = 1; thing 0 0 0 = 1; spread 0 2 false = 1
                """);
        Script.run("promise 12: CLOSED, none is counted twice", WIDEST_RING + "spread 0 0 false = 32; spread 0 0 true = 32");
        Script.run("promise 12: a FIELD with two WAYS is one FIELD", """
                thing 40 1 0 = 1; thing 36 1 1 = 2; thing 4 1 1 = 3; thing 0 1 0 = 4
                spread 36 0 false = 16; spread 36 0 true = 16; clear 40 = 1; thing 40 2 0 = 4
                spread 36 0 false = 21; spread 36 0 true = 20
                """);
        Script.run("promise 12: a HALF to which a RAY'S parts come with all four WAYS", EIGHT + """
                thing 20 2 0 = 7; spread 20 0 false = 32; spread 20 0 true = 15; path 20 0 = 16; spread 3 0 false = 32
                """);
        Script.run("promise 12: a part that goes out, and one that comes round again", WIDEST_RING + """
                thing 36 2 0 = 5; spread 40 2 false = 37; spread 40 2 true = 36; spread 40 0 false = 5
                """);
    }

    private static void sees() {
        Script.run("terms 2: itself only if it comes there again", """
                sees 0 0 = 0; sees 40 40 = 0; thing 8 1 1 = 1; thing 80 1 0 = 2; thing 72 1 1 = 3
                sees 0 0 = 3       # again with another WAY, from either side
                sees 4 4 = 0; thing 0 1 0 = 4; sees 0 0 = 3; sees 4 4 = 5; sees 40 40 = 0
                """);
        Script.run("promise 13: no WAY and all WAYS, as bits", EIGHT + """
                sees 20 20 = 15; sees 20 22 = 15; sees 20 80 = 0; sees 80 20 = 0
                """);
        Script.run("promise 13: one WAY each, as bits", """
                sees 40 44 = 1; sees 40 76 = 2; sees 40 36 = 4; sees 40 4 = 8; sees 40 50 = 0
                """);
        Script.run("promise 13: a WALL or a shut DOOR SEES, but is not SEEN", """
                thing 40 0 0 = 1; thing 4 3 0 = 2; sees 40 36 = 4; sees 36 40 = 0; sees 4 0 = 4; sees 0 4 = 0; sees 40 4 = 0
                sees 4 40 = 0
                """);
        Script.run("promise 13: the last FIELD ahead of a WALL", """
                thing 40 0 0 = 1; sees 36 39 = 1; sees 36 40 = 0; sees 36 41 = 0
                """);
    }

    private static void seen() {
        Script.run("promise 14: none", """
                floor 1 1 = 0; seen 0 = 0; floor 9 9 = 0; thing 0 0 0 = 1; seen 0 = 0; thing 1 3 0 = 2; seen 1 = 0
                """);
        Script.run("promise 14: walled in", """
                thing 1 0 0 = 1; thing 9 0 0 = 2; seen 0 = 2; clear 9 = 0; seen 0 = 9; lean 1 = KIND
                """);
        Script.run("promise 14: FIELDS of THE FLOOR alone", """
                floor 9 1 = 0; seen 0 = 8; floor 2 1 = 0; seen 0 = 1; floor 2 2 = 0; seen 0 = 2
                """);
        Script.run("promise 14: a FIELD counts once, though it SEES by several WAYS", WIDEST_RING + """
                seen 4 = 39        # the 32 of the ring, itself too, and 7 of its column
                seen 0 = 32; seen 40 = 16
                """);
        Script.run("promise 14: itself only if it comes there again", """
                floor 2 2 = 0; seen 0 = 2; thing 1 1 1 = 1; thing 10 1 0 = 2; thing 9 1 1 = 3; seen 0 = 4; clear 10 = 1
                seen 0 = 3
                """);
        Script.run("promise 14: an OPEN DOOR is SEEN", """
                thing 1 3 0 = 1; lamp 0 0 0 = 0; seen 1 = 0; open = 1; seen 1 = 16; shut 1 = 1; seen 1 = 0
                """);
    }

    private static void noRings() {
        Script.run("promise 15: none", "rings = 0; all 5 = 0; floor 1 1 = 0; rings = 0");
        Script.run("promise 16: NONE, there is none at all", """
                ring 0 false = NONE; ring 0 true = NONE; ring -1 true = NONE; ring 1 false = NONE
                """);
        Script.run("promise 15: one MIRROR is wanting", """
                thing 0 1 0 = 1; thing 1 1 1 = 2; thing 10 1 0 = 3; rings = 0; thing 9 1 1 = 4; rings = 2
                """);
        Script.run("promise 16: SIZE of the least CLOSED RAY and of the widest", """
                thing 0 1 0 = 1; thing 1 1 1 = 2; thing 10 1 0 = 3; thing 9 1 1 = 4; ring 0 false = 4; ring 1 false = 4
                ring 2 false = NONE
                clear 1 = 1; clear 10 = 1; clear 9 = 1; thing 8 1 1 = 2; thing 80 1 0 = 3; thing 72 1 1 = 4
                ring 0 false = 32; ring 0 true = 0; ring 1 false = 32; ring 1 true = 1; ring 2 false = NONE
                """);
        Script.run("terms 4: a CLOSED RAY at the last FIELDS", """
                thing 70 1 0 = 1; thing 71 1 1 = 2; thing 80 1 0 = 3; thing 79 1 1 = 4
                rings = 2; ring 0 true = 280; ring 1 true = 281; ring 1 false = 4; ring 2 true = NONE
                """);
        Script.run("terms 4: HALVES as MIRRORS, and TABLES", """
                thing 0 2 0 = 1; thing 1 4 1 = 2; thing 10 2 0 = 3; thing 9 4 1 = 4; rings = 2; ring 0 false = 4; ring 1 true = 1
                """);
        Script.run("terms 4: a DOOR in the ring, shut and OPEN", WIDEST_RING + """
                thing 4 3 0 = 5; rings = 0; ring 0 true = NONE; lamp 13 3 0 = 0; open = 1; rings = 2; ring 1 true = 1
                shut 4 = 1; rings = 0
                """);
    }

    private static void rings() {
        StringBuilder text = new StringBuilder("sheet 0 8 9 = 9; sheet 1 8 9 = 9\n");
        for (int x = 0; x < 9; x++) {
            text.append("put 0 " + x + " " + (2 + x % 2) + " = 0; put 1 " + x + " " + (3 - x % 2) + " = 0\n");
        }
        for (int y = 0; y < 9; y++) {
            text.append("row " + y + " " + y % 2 + " = 9\n");
        }
        // small rings stand corner to corner: 16 with even x and y, 16 with odd ones, both ways around
        Script.run("promise 15: as many as a FLOOR of MIRRORS has", text + """
                rings = 64; ring 63 false = 4; ring 63 true = 281; ring 64 false = NONE; ring 64 true = NONE
                ring 0 true = 0; ring 1 true = 1; ring 2 true = 8; ring 8 true = 40; ring 9 true = 41; ring 62 true = 280
                """);
        Script.run("terms 4: numbered by the least, whatever rays went there before a change", SNAKE + """
                rings = 0; floor 1 1 = 0; floor 9 9 = 0; thing 7 1 0 = 1; thing 8 1 1 = 2; thing 17 1 0 = 3; thing 16 1 1 = 4
                ring 1 true = 29; rings = 2; ring 0 true = 28; ring 1 true = 29; ring 1 false = 4; ring 2 true = NONE
                """);
        Script.run("promise 16: NONE for numbers far off", WIDEST_RING + """
                ring -1 true = NONE; ring 2 true = NONE; ring 2147483647 false = NONE; ring -2147483648 false = NONE
                ring 0 true = 0; ring 1 true = 1
                """);
        Script.run("terms 4: numbered by the least, not by when they came", """
                thing 70 1 0 = 1; thing 71 1 1 = 2; thing 80 1 0 = 3; thing 79 1 1 = 4; ring 0 true = 280
                thing 4 1 0 = 5; thing 6 1 1 = 6; thing 24 1 0 = 7; thing 22 1 1 = 8
                ring 0 true = 16; ring 0 false = 8; ring 1 true = 17; ring 2 true = 280; ring 2 false = 4; ring 3 true = 281
                ring 4 true = NONE
                """);
    }
}
