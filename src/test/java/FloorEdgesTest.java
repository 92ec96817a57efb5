/** The boundary cases of promises 1 to 8, sentence by sentence. */
public final class FloorEdgesTest {
    public static void main(String[] args) {
        findings();
        newObject();
        floorSizes();
        floorTakesAway();
        thingBeyond();
        thingTaken();
        thingFull();
        fullFloor();
        clear();
        as();
        at();
        lean();
        shut();
        Script.end("FloorEdgesTest");
    }

    private static void findings() {
        Script.run("terms: each FINDING has its number", """
                at 81 0 = -100001
                put 0 0 0 = -100002
                sheet 0 8 -1 = -100003
                thing 0 0 0 = 1; as 0 1 = -100004
                lamp 1 0 0 = 0; lamp 2 0 0 = 1; lamp 3 0 0 = 2; lamp 4 0 0 = 3; lamp 5 0 0 = 4; lamp 6 0 0 = 5
                lamp 7 0 0 = -100005
                clear 80 = -100006
                thing 0 0 0 = -100007
                """);
    }

    private static void newObject() {
        StringBuilder text = new StringBuilder();
        for (int field = 0; field < 81; field++) {
            text.append("at " + field + " 0 = -1; at " + field + " 3 = -1; lit " + field + " = 0\n");
        }
        Script.run("promise 1: 9 by 9 free FIELDS, no LAMPS", "all 0 = 81; at 81 0 = BEYOND; at -1 0 = BEYOND\n"
                + text + "all 1 = 0; all 2 = 0; all 3 = 0; all 4 = 0; out = NONE; face 0 0 = BEYOND");
        Script.run("promise 1: sheets MISSING", """
                row 0 0 = MISSING; row 0 1 = MISSING; row 0 2 = MISSING; row 0 3 = MISSING; row 0 4 = BEYOND
                put 0 0 0 = MISSING; put 1 0 0 = MISSING; put 2 0 0 = MISSING; put 3 0 0 = MISSING
                """);
        Script.run("promise 1: nothing to undo", "undo = NONE; all 5 = 1");
    }

    private static void floorSizes() {
        Edges.limits("terms 1: WIDE is 1 to 9", "", "floor N 5", 1, 9);
        Edges.limits("terms 1: DEEP is 1 to 9", "", "floor 5 N", 1, 9);
        Script.run("promise 2: BEYOND by either side", """
                floor 0 0 = BEYOND; floor 10 10 = BEYOND; floor 0 10 = BEYOND; floor 10 0 = BEYOND
                all 0 = 81; undo = NONE
                """);
        Script.run("terms 1: the least, the longest and the largest FLOOR", """
                floor 1 1 = 0; all 0 = 1; floor 9 1 = 0; all 0 = 9; floor 1 9 = 0; all 0 = 9; floor 9 9 = 0; all 0 = 81
                """);
        for (int wide = 1; wide <= 9; wide++) {
            for (int deep = 1; deep <= 9; deep++) {
                Script.run("terms 1: FIELDS of a FLOOR of " + wide + " by " + deep, fieldsOf(wide, deep));
            }
        }
        Script.run("terms 1: FIELD x, y has the number 9 times y and x, also on a narrow FLOOR", """
                floor 2 3 = 0; step 0 0 1 = 4; step 0 1 1 = 37; step 0 1 2 = 73; step 19 2 1 = 74; step 19 3 2 = 7
                """);
    }

    private static String fieldsOf(int wide, int deep) {
        StringBuilder text = new StringBuilder("floor " + wide + " " + deep + " = 0\nall 0 = " + wide * deep + "\n");
        for (int y = -1; y <= 9; y++) {
            for (int x = 0; x < 9; x++) {
                boolean is = x < wide && y >= 0 && y < deep;
                text.append("at " + (9 * y + x) + " 0 = " + (is ? "-1" : "BEYOND") + "\n");
            }
        }
        return text.toString();
    }

    private static void floorTakesAway() {
        Script.run("promise 2: what stands beyond goes, the last column and row stay", """
                thing 3 0 0 = 1; thing 4 0 0 = 2; thing 18 1 0 = 3; thing 27 1 0 = 4
                thing 21 2 1 = 5; thing 22 2 1 = 6; thing 30 2 1 = 7
                floor 4 3 = 3; at 3 0 = 0; at 18 0 = 1; at 21 0 = 2
                floor 9 9 = 3; at 4 0 = -1; at 27 0 = -1; at 22 0 = -1; at 30 0 = -1
                """);
        Script.run("promise 2: LAMPS beyond go too, the last column and row stay", """
                lamp 3 0 0 = 0; lamp 4 1 0 = 1; lamp 18 2 1 = 2; lamp 27 3 1 = 3; lamp 21 0 2 = 4; lamp 22 1 2 = 5
                floor 4 3 = 3; at 3 3 = 0; at 18 3 = 1; at 21 3 = 2
                floor 9 9 = 3; at 4 3 = -1; at 27 3 = -1; at 22 3 = -1; all 2 = 3
                """);
        Script.run("promise 2: the others keep their order, their WAYS and COLOURS", """
                lamp 40 0 0 = 0; lamp 11 1 2 = 1; lamp 8 2 0 = 2; lamp 1 3 1 = 3; lamp 72 0 0 = 4; lamp 9 0 0 = 5
                floor 3 3 = 3; at 11 3 = 0; at 1 3 = 1; at 9 3 = 2
                bright 2 = 2; bright 1 = 1; bright 0 = 3; lit 20 = 4; lit 1 = 2; lit 11 = 5
                face 0 0 = 1; face 1 0 = 3; face 2 1 = 0; face 3 0 = BEYOND
                out = 2; at 9 3 = -1
                """);
        Script.run("promise 2: LEAN, COLOUR and OPEN go with what stands beyond", """
                thing 4 1 1 = 1; thing 22 3 2 = 2; lamp 18 0 2 = 0; open = 1; all 4 = 1; floor 4 9 = 1; all 4 = 0; floor 9 9 = 1
                at 4 1 = 0; at 22 1 = 0; at 22 2 = 0; at 80 1 = 0; thing 22 3 2 = 1; at 22 2 = 0
                """);
        Script.run("promise 2: nothing stands there, nothing goes", "floor 1 1 = 0; floor 9 9 = 0; all 1 = 0; all 2 = 0");
        Script.run("promise 2: THINGS and LAMPS are counted together", """
                thing 0 0 0 = 1; floor 9 9 = 1; lamp 1 0 0 = 0; floor 9 9 = 2; thing 2 4 1 = 2; floor 9 9 = 3
                clear 0 = 0; floor 9 9 = 2; floor 2 1 = 1; floor 1 1 = 0
                """);
        Script.run("promise 2: rays and walks end at the new edge", """
                path 0 0 = 9; far 0 80 = 16; floor 5 4 = 0; path 0 0 = 5; path 0 1 = 4; reach 0 = 20
                far 0 31 = 7; far 0 80 = BEYOND; spread 27 0 false = 5; seen 0 = 7
                """);
    }

    private static void thingBeyond() {
        Edges.fields("promise 3: no such FIELD", "", "thing N 0 0");
        Edges.limits("promise 3: no such kind", "", "thing 0 N 0", 0, 4);
        Edges.limits("promise 3: a WALL has 0", "", "thing 0 0 N", 0, 0);
        Edges.limits("promise 3: LEAN of a MIRROR", "", "thing 0 1 N", 0, 1);
        Edges.limits("promise 3: LEAN of a HALF", "", "thing 0 2 N", 0, 1);
        Edges.limits("promise 3: COLOUR of a DOOR", "", "thing 0 3 N", 0, 2);
        Edges.limits("promise 3: LEAN of a TABLE", "", "thing 0 4 N", 0, 1);
        Script.run("promise 3: LEAN and COLOUR are kept as told", """
                thing 0 1 0 = 1; thing 1 1 1 = 2; thing 2 2 0 = 3; thing 3 2 1 = 4; thing 4 4 0 = 5; thing 5 4 1 = 6
                thing 6 3 0 = 7; thing 7 3 1 = 8; thing 8 3 2 = 9; thing 9 0 0 = 10
                at 0 1 = 0; at 1 1 = 1; at 2 1 = 0; at 3 1 = 1; at 4 1 = 0; at 5 1 = 1
                at 6 1 = 0; at 7 1 = 1; at 8 1 = 2; at 9 1 = 0
                """);
        Script.run("terms 1: a DOOR is not OPEN at first", "thing 0 3 0 = 1; at 0 2 = 0; shut 0 = 0; all 4 = 0");
    }

    private static void thingTaken() {
        Script.run("promise 3: TAKEN, it is not free", """
                thing 0 0 0 = 1; thing 1 1 0 = 2; thing 2 2 0 = 3; thing 12 3 0 = 4; thing 4 4 0 = 5
                thing 0 0 0 = TAKEN; thing 1 0 0 = TAKEN; thing 2 0 0 = TAKEN; thing 12 0 0 = TAKEN; thing 4 0 0 = TAKEN
                lamp 9 0 0 = 0; open = 1; thing 12 3 0 = TAKEN; all 1 = 5
                """);
        Script.run("promise 3: TAKEN, it has a LAMP", """
                lamp 5 0 0 = 0; thing 5 0 0 = TAKEN; thing 5 4 0 = TAKEN; thing 6 0 0 = 1
                out = 0; thing 5 0 0 = 2
                """);
        Script.run("promise 3: BEYOND is asked ahead of TAKEN", """
                thing 0 0 0 = 1; lamp 1 0 0 = 0
                thing 0 5 0 = BEYOND; thing 0 -1 0 = BEYOND; thing 0 0 1 = BEYOND; thing 0 1 2 = BEYOND; thing 0 3 3 = BEYOND
                thing 1 5 0 = BEYOND; thing 1 0 1 = BEYOND; thing 1 4 2 = BEYOND; thing 1 2 -1 = BEYOND; thing 1 3 -1 = BEYOND
                """);
    }

    private static String tables(int n) {
        StringBuilder text = new StringBuilder();
        for (int i = 0; i < n; i++) {
            text.append("thing " + (9 + i) + " 4 0 = " + (i + 1) + "\n");
        }
        return text.toString();
    }

    private static void thingFull() {
        Script.run("terms 1: TABLES at most 10", tables(10) + "all 3 = 10; thing 0 4 0 = FULL; thing 80 4 1 = FULL; all 3 = 10");
        Script.run("promise 3: FULL only if it is a TABLE", tables(10) + """
                thing 0 0 0 = 11; thing 1 1 1 = 12; thing 2 2 1 = 13; thing 3 3 2 = 14; thing 4 4 0 = FULL; lamp 4 0 0 = 0
                """);
        Script.run("promise 3: BEYOND and TAKEN are asked ahead of FULL", tables(10) + """
                thing 81 4 0 = BEYOND; thing 0 4 2 = BEYOND; thing 0 4 -1 = BEYOND
                thing 9 4 0 = TAKEN; lamp 0 0 0 = 0; thing 0 4 0 = TAKEN; thing 1 4 0 = FULL
                """);
        Script.run("promise 3: a TABLE that was cleared leaves room", tables(10) + """
                thing 0 4 0 = FULL; clear 9 = 4; thing 0 4 0 = 10; thing 9 4 0 = FULL
                """);
        Script.run("promise 3: TABLES that went with THE FLOOR leave room", tables(10) + """
                floor 9 2 = 9; thing 0 4 0 = 10; thing 1 4 0 = FULL
                """);
        Script.run("promise 3: a TABLE that a row took away leaves room", tables(10) + """
                sheet 0 8 1 = 1; row 1 0 = 1; all 3 = 9; thing 0 4 0 = 10; thing 1 4 0 = FULL
                """);
        Script.run("promise 3: a TABLE that was undone leaves room", tables(10) + """
                undo = 9; thing 0 4 0 = 10; thing 1 4 0 = FULL
                """);
        Script.run("promise 3: a TABLE that comes again by undo takes its room", tables(10) + """
                clear 9 = 4; undo = 10; thing 0 4 0 = FULL
                """);
    }

    private static void fullFloor() {
        StringBuilder text = new StringBuilder();
        for (int field = 0; field < 81; field++) {
            text.append("thing " + field + " " + field % 4 + " 0 = " + (field + 1) + "\n");
        }
        for (int field = 0; field < 81; field++) {
            text.append("thing " + field + " 0 0 = TAKEN; lamp " + field + " 0 0 = TAKEN; reach " + field + " = NONE\n");
        }
        Script.run("promise 3: a full FLOOR", text + "all 1 = 81; floor 9 9 = 81; clear 80 = 0; thing 80 1 1 = 81");
    }

    private static void clear() {
        Edges.fields("promise 4: BEYOND", "", "clear N");
        Script.run("promise 4: NONE, the FIELD is free", "clear 0 = NONE; thing 0 0 0 = 1; clear 0 = 0; clear 0 = NONE");
        Script.run("promise 4: NONE, a LAMP is no THING", "lamp 0 0 0 = 0; clear 0 = NONE; at 0 3 = 0; all 2 = 1");
        Script.run("promise 4: the kind, 0 of a WALL is no finding", """
                thing 0 0 0 = 1; thing 1 1 1 = 2; thing 2 2 1 = 3; thing 3 3 2 = 4; thing 4 4 1 = 5
                clear 4 = 4; clear 3 = 3; clear 2 = 2; clear 1 = 1; clear 0 = 0; all 5 = 0; all 1 = 0
                """);
        Script.run("promise 4: LEAN, COLOUR and OPEN go with the THING", """
                thing 5 3 2 = 1; lamp 4 0 2 = 0; open = 1; clear 5 = 3; at 5 0 = -1; at 5 1 = 0; at 5 2 = 0; all 4 = 0
                thing 5 0 0 = 1; at 5 1 = 0; at 5 2 = 0; all 4 = 0; clear 5 = 0
                thing 5 3 2 = 1; at 5 2 = 0; path 4 0 = 1
                """);
    }

    private static void as() {
        Edges.fields("promise 5: no such FIELD", "thing 0 0 0", "as N 0");
        Edges.limits("promise 5: no such kind", "thing 0 2 0", "as 0 N", 0, 4);
        Script.run("promise 5: NONE, it is free", "as 0 0 = NONE; as 0 4 = NONE; lamp 0 0 0 = 0; as 0 0 = NONE");
        Script.run("promise 5: BEYOND is asked ahead of NONE", "as 0 5 = BEYOND; as 0 -1 = BEYOND; as 81 0 = BEYOND");
        Script.run("promise 5: BEYOND is asked ahead of KIND", """
                thing 0 0 0 = 1; as 0 5 = BEYOND; as 0 4 = KIND; as 81 4 = BEYOND
                """);
        Script.run("promise 5: FIELD 0 and FIELD 80 are answered", "thing 0 0 0 = 1; as 0 0 = 0; thing 80 4 0 = 2; as 80 1 = 80");
        // what each kind is as: itself, and those that it is under
        String[] fits = {"0", "01", "012", "03", "014"};
        for (int kind = 0; kind < 5; kind++) {
            StringBuilder text = new StringBuilder("thing 40 " + kind + " 0 = 1\n");
            for (int other = 0; other < 5; other++) {
                boolean is = fits[kind].contains(String.valueOf(other));
                text.append("as 40 " + other + " = " + (is ? "40" : "KIND") + "\n");
            }
            Script.run("promise 5: a THING of kind " + kind, text.toString());
        }
    }

    private static void at() {
        Edges.fields("promise 6: no such FIELD", "", "at N 0");
        Edges.fields("promise 6: no such FIELD, of its LAMP", "", "at N 3");
        Edges.limits("promise 6: another what", "", "at 0 N", 0, 3);
        Edges.limits("promise 6: another what, of a THING", "thing 0 3 2", "at 0 N", 0, 3);
        Script.run("promise 6: -1 is no finding", "at 0 0 = -1; at 0 3 = -1; all 5 = 0; at 0 4 = BEYOND; all 5 = 1");
        Script.run("promise 6: 0 for free ones", "at 0 1 = 0; at 0 2 = 0; lamp 0 0 2 = 0; at 0 0 = -1; at 0 1 = 0; at 0 2 = 0");
        Script.run("promise 6: LEAN or COLOUR, 0 for others", """
                thing 0 0 0 = 1; at 0 1 = 0; thing 1 1 1 = 2; at 1 1 = 1; thing 2 3 2 = 3; at 2 1 = 2
                """);
        Script.run("promise 6: whether it is an OPEN DOOR", """
                thing 1 3 0 = 1; at 1 2 = 0; lamp 0 0 0 = 0; open = 1; at 1 2 = 1; at 0 2 = 0; shut 1 = 1; at 1 2 = 0
                """);
        Script.run("promise 6: its LAMP, the first is 0 and the last is 5", """
                lamp 10 0 0 = 0; lamp 9 0 0 = 1; lamp 8 0 0 = 2; lamp 7 0 0 = 3; lamp 6 0 0 = 4; lamp 0 0 0 = 5
                at 10 3 = 0; at 0 3 = 5; at 6 3 = 4; at 1 3 = -1; thing 1 0 0 = 1; at 1 3 = -1
                """);
    }

    private static void lean() {
        Edges.fields("promise 7: BEYOND", "", "lean N");
        Script.run("promise 7: NONE, the FIELD is free", "lean 0 = NONE; lamp 0 0 0 = 0; lean 0 = NONE");
        Script.run("promise 7: KIND, it is none", """
                thing 0 0 0 = 1; lean 0 = KIND; thing 1 3 0 = 2; lean 1 = KIND; thing 2 3 1 = 3; lean 2 = KIND
                at 0 1 = 0; at 1 1 = 0; at 2 1 = 1
                """);
        Script.run("promise 7: KIND of an OPEN DOOR", "thing 1 3 0 = 1; lamp 0 0 0 = 0; open = 1; lean 1 = KIND; at 1 2 = 1");
        Script.run("promise 7: LEAN 0 becomes 1, and 1 becomes 0", """
                thing 0 1 0 = 1; lean 0 = 1; lean 0 = 0; thing 1 2 1 = 2; lean 1 = 0; lean 1 = 1
                thing 2 4 0 = 3; lean 2 = 1; lean 2 = 0; at 0 1 = 0; at 1 1 = 1; at 2 1 = 0
                """);
    }

    private static void shut() {
        Edges.fields("promise 8: BEYOND", "", "shut N");
        Script.run("promise 8: NONE, the FIELD is free", "shut 0 = NONE; lamp 0 0 0 = 0; shut 0 = NONE");
        Script.run("promise 8: KIND, it is no DOOR", """
                thing 0 0 0 = 1; thing 1 1 0 = 2; thing 2 2 0 = 3; thing 4 4 0 = 4
                shut 0 = KIND; shut 1 = KIND; shut 2 = KIND; shut 4 = KIND
                """);
        Script.run("promise 8: 1 if it was OPEN, else 0", """
                thing 1 3 1 = 1; shut 1 = 0; lamp 0 0 1 = 0; shut 1 = 0; open = 1; shut 1 = 1; shut 1 = 0; at 1 1 = 1
                """);
        Script.run("promise 8: only that DOOR is shut", """
                thing 1 3 0 = 1; thing 2 3 0 = 2; lamp 0 0 0 = 0; open = 2; shut 1 = 1; at 2 2 = 1; all 4 = 1
                """);
    }
}
