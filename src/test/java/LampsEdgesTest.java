/** The boundary cases of promises 17 to 25, sentence by sentence. */
public final class LampsEdgesTest {
    private static final String SIX_LAMPS = """
            lamp 9 0 0 = 0; lamp 10 1 1 = 1; lamp 11 2 2 = 2; lamp 12 3 0 = 3; lamp 13 0 1 = 4; lamp 14 1 2 = 5
            """;
    /** The column of a TABLE that a lamp at FIELD 0 with WAY 0 meets. */
    private static final String LAMP_AND_TABLE = "lamp 0 0 0 = 0; thing 2 4 1 = 1\n";

    public static void main(String[] args) {
        lampBeyond();
        lampTaken();
        lampFull();
        out();
        face();
        noLamps();
        lit();
        bright();
        rounds();
        manyRounds();
        turnsBeyond();
        turnsNone();
        turnsFewest();
        turnsOfMany();
        turnSets();
        Script.end("LampsEdgesTest");
    }

    private static void lampBeyond() {
        Edges.fields("promise 17: no such FIELD", "", "lamp N 0 0");
        Edges.limits("promise 17: no such WAY", "", "lamp 0 N 0", 0, 3);
        Edges.limits("promise 17: no such COLOUR", "", "lamp 0 0 N", 0, 2);
        Script.run("promise 17: its number, from 0 on, also behind one that went", """
                lamp 80 3 2 = 0; lamp 0 0 0 = 1; out = 1; lamp 1 0 0 = 1; out = 1; out = 0; lamp 2 0 0 = 0
                """);
        Script.run("promise 17: WAY and COLOUR are kept as told", """
                lamp 0 0 0 = 0; lamp 80 3 2 = 1; lamp 40 2 1 = 2; face 0 0 = 0; face 1 3 = 3; face 2 2 = 2
                lit 0 = 1; lit 80 = 4; lit 40 = 2
                """);
    }

    private static void lampTaken() {
        Script.run("promise 17: TAKEN, it is not free", """
                thing 0 0 0 = 1; thing 1 1 0 = 2; thing 2 2 0 = 3; thing 12 3 0 = 4; thing 4 4 0 = 5
                lamp 0 0 0 = TAKEN; lamp 1 0 0 = TAKEN; lamp 2 0 0 = TAKEN; lamp 12 0 0 = TAKEN; lamp 4 0 0 = TAKEN
                lamp 9 0 0 = 0; open = 1; lamp 12 0 0 = TAKEN; clear 12 = 3; lamp 12 0 0 = 1
                """);
        Script.run("promise 17: TAKEN, it has a LAMP", """
                lamp 0 0 0 = 0; lamp 0 1 1 = TAKEN; face 0 0 = 0; lit 0 = 1; out = 0; lamp 0 1 1 = 0
                """);
        Script.run("promise 17: BEYOND is asked ahead of TAKEN", """
                thing 0 0 0 = 1; lamp 1 0 0 = 0; lamp 0 4 0 = BEYOND; lamp 0 -1 0 = BEYOND; lamp 0 0 3 = BEYOND
                lamp 1 0 -1 = BEYOND
                lamp 1 4 0 = BEYOND
                """);
    }

    private static void lampFull() {
        Script.run("terms 3: LAMPS, at most 6", SIX_LAMPS + """
                all 2 = 6; lamp 0 0 0 = FULL; lamp 80 3 2 = FULL; all 2 = 6; at 0 3 = -1
                """);
        Script.run("promise 17: BEYOND and TAKEN are asked ahead of FULL", SIX_LAMPS + """
                lamp 81 0 0 = BEYOND; lamp 0 4 0 = BEYOND; lamp 0 0 3 = BEYOND; lamp 9 0 0 = TAKEN; thing 0 0 0 = 1
                lamp 0 0 0 = TAKEN
                """);
        Script.run("promise 17: a LAMP that went leaves room", SIX_LAMPS + "out = 5; lamp 0 0 0 = 5; lamp 1 0 0 = FULL");
        Script.run("promise 17: LAMPS that went with THE FLOOR leave room", SIX_LAMPS + """
                floor 5 9 = 5; lamp 0 0 0 = 5; lamp 1 0 0 = FULL; at 0 3 = 5
                """);
        Script.run("promise 17: a LAMP that was undone leaves room", SIX_LAMPS + "undo = 5; lamp 0 0 0 = 5; lamp 1 0 0 = FULL");
        Script.run("promise 17: a LAMP that comes again by undo takes its room", SIX_LAMPS + """
                out = 5; undo = 6; lamp 0 0 0 = FULL; at 14 3 = 5
                """);
        Script.run("promise 3: a full row of LAMPS takes no THING, but others do", SIX_LAMPS + """
                thing 14 0 0 = TAKEN; thing 15 0 0 = 1
                """);
    }

    private static void out() {
        Script.run("promise 18: NONE", "out = NONE; lamp 0 0 0 = 0; out = 0; out = NONE; all 2 = 0");
        Script.run("promise 18: the latest LAMP, down to none", SIX_LAMPS + """
                out = 5; at 14 3 = -1; at 13 3 = 4; out = 4; out = 3; out = 2; out = 1; at 9 3 = 0; at 10 3 = -1; out = 0
                at 9 3 = -1; out = NONE
                """);
        Script.run("promise 18: the latest is that of the highest number", """
                lamp 0 0 0 = 0; lamp 8 0 1 = 1; lamp 1 0 2 = 2; floor 2 2 = 2; out = 1; at 1 3 = -1; at 0 3 = 0
                """);
        Script.run("promise 18: its FIELD is free for a THING", "lamp 0 0 0 = 0; thing 0 0 0 = TAKEN; out = 0; thing 0 0 0 = 1");
    }

    private static void face() {
        Edges.limits("promise 19: no LAMP at all", "", "face N 0", 0, -1);
        Edges.limits("promise 19: one LAMP", "lamp 0 0 0", "face N 0", 0, 0);
        Edges.limits("promise 19: six LAMPS", SIX_LAMPS, "face N 0", 0, 5);
        Edges.limits("promise 19: no such WAY", "lamp 0 0 0", "face 0 N", 0, 3);
        Script.run("promise 19: what it was, also if it is the same", """
                lamp 0 3 0 = 0; face 0 3 = 3; face 0 0 = 3; face 0 0 = 0; face 0 2 = 0; face 0 1 = 2
                """);
        Script.run("promise 19: only that LAMP turns", SIX_LAMPS + """
                face 5 3 = 1; face 0 1 = 0; face 1 1 = 1; face 2 2 = 2; face 3 3 = 3; face 4 0 = 0; face 5 3 = 3; face 0 1 = 1
                """);
        Script.run("promise 19: a LAMP that went faces nowhere", "lamp 0 0 0 = 0; out = 0; face 0 0 = BEYOND");
    }

    private static void noLamps() {
        Script.run("terms 3: without LAMPS nothing is LIT and nothing opens", """
                thing 0 3 0 = 1; lit 0 = 0; lit 80 = 0; bright 0 = 0; bright 1 = 0; bright 2 = 0; opened false = 0
                opened true = 0; open = 0
                turns 0 0 = BEYOND; turns -1 0 = BEYOND; all 4 = 0
                """);
        Script.run("terms 3: what a LAMP lit is dark behind it", """
                lamp 0 0 0 = 0; lit 8 = 1; bright 0 = 9; out = 0; lit 8 = 0; lit 0 = 0; bright 0 = 0
                """);
    }

    private static void lit() {
        Edges.fields("promise 20: BEYOND", "", "lit N");
        Edges.fields("promise 20: BEYOND, with a LAMP", "lamp 0 0 0", "lit N");
        Script.run("promise 20: none, and all COLOURS as bits", """
                lit 4 = 0; lamp 0 0 0 = 0; lit 4 = 1; lamp 8 2 1 = 1; lit 4 = 3; lamp 76 3 2 = 2; lit 4 = 7; lit 80 = 0
                """);
        Script.run("promise 20: one COLOUR by two LAMPS is one bit", """
                lamp 0 0 1 = 0; lamp 8 2 1 = 1; lit 4 = 2; out = 1; lit 4 = 2
                """);
        Script.run("terms 3: the FIELD of a LAMP is LIT by it, also if it ENDS at once", """
                lamp 0 2 2 = 0; lit 0 = 4; lit 1 = 0; bright 2 = 1
                """);
        Script.run("terms 3: a DOOR at which a RAY ENDS is LIT, what is behind it is not", """
                lamp 0 0 1 = 0; thing 2 3 0 = 1; lit 1 = 2; lit 2 = 2; lit 3 = 0; lamp 3 2 2 = 1; lit 2 = 6
                """);
        Script.run("terms 3: a WALL at which a RAY ENDS is not LIT", """
                lamp 0 0 1 = 0; thing 2 0 0 = 1; lit 1 = 2; lit 2 = 0; lit 3 = 0; bright 1 = 2
                """);
        Script.run("terms 3: an OPEN DOOR is LIT, and what is behind it", """
                lamp 0 0 0 = 0; thing 2 3 0 = 1; open = 1; lit 2 = 1; lit 8 = 1; bright 0 = 9
                """);
        Script.run("terms 3: MIRRORS, HALVES and TABLES to which a RAY comes are LIT", """
                lamp 36 0 0 = 0; thing 38 2 0 = 1; thing 40 4 0 = 2; thing 20 1 0 = 3; lit 38 = 1; lit 40 = 1; lit 20 = 1
                lit 4 = 1
                lit 39 = 1; lit 2 = 0; lit 26 = 1; lit 41 = 0
                """);
        Script.run("terms 3: a parted RAY lights two DOORS", """
                lamp 36 0 0 = 0; thing 38 2 0 = 1; thing 40 3 0 = 2; thing 20 3 0 = 3; lit 40 = 1; lit 20 = 1
                opened true = 1; open = 2
                """);
        Script.run("terms 3: what is LIT is asked with DOORS as they are", """
                lamp 0 0 0 = 0; thing 2 3 0 = 1; lit 4 = 0; opened false = 1; lit 4 = 0; bright 0 = 3; open = 1; lit 4 = 1
                shut 2 = 1; lit 4 = 0
                """);
    }

    private static void bright() {
        Edges.limits("promise 21: BEYOND", "", "bright N", 0, 2);
        Edges.limits("promise 21: BEYOND, with LAMPS", SIX_LAMPS, "bright N", 0, 2);
        Script.run("promise 21: none and one", "bright 0 = 0; lamp 0 2 0 = 0; bright 0 = 1; bright 1 = 0; bright 2 = 0");
        Script.run("promise 21: all FIELDS", RaysEdgesTest.SNAKE + """
                lamp 0 1 2 = 0; bright 2 = 81; bright 0 = 0; bright 1 = 0; lit 80 = 4
                """);
        Script.run("promise 21: a FIELD in two LAMPS' SPREADS counts once", """
                lamp 0 0 0 = 0; lamp 8 2 0 = 1; bright 0 = 9; lamp 4 1 0 = 2; bright 0 = 17
                """);
        Script.run("promise 21: a DOOR at which a RAY ENDS counts, a WALL does not", """
                lamp 0 0 0 = 0; thing 1 3 2 = 1; bright 0 = 2; clear 1 = 3; thing 1 0 0 = 1; bright 0 = 1
                """);
        Script.run("promise 21: on a FLOOR of one FIELD", """
                floor 1 1 = 0; lamp 0 0 0 = 0; bright 0 = 1; lit 0 = 1; turns 0 0 = 0
                """);
    }

    private static void rounds() {
        Script.run("promise 22: no DOOR, no ROUND", """
                opened false = 0; opened true = 0; lamp 0 0 0 = 0; opened false = 0; opened true = 0; open = 0
                """);
        Script.run("terms 3: only DOORS that are LIT by their COLOUR open", """
                lamp 0 0 0 = 0; thing 2 3 1 = 1; opened false = 0; opened true = 0; open = 0; at 2 2 = 0
                lamp 9 0 1 = 1; thing 11 3 1 = 2; opened false = 1; open = 1; at 11 2 = 1; at 2 2 = 0
                """);
        Script.run("terms 3: each COLOUR opens its own", """
                lamp 0 0 0 = 0; lamp 9 0 1 = 1; lamp 18 0 2 = 2; thing 1 3 0 = 1; thing 10 3 1 = 2; thing 19 3 2 = 3
                opened true = 1; opened false = 3; open = 3
                """);
        Script.run("terms 3: all that are LIT open in one ROUND, then again as long as one opens", """
                lamp 0 0 0 = 0; lamp 9 0 0 = 1; thing 1 3 0 = 1; thing 2 3 0 = 2; thing 10 3 0 = 3; thing 3 3 1 = 4
                thing 4 3 0 = 5
                opened true = 2; opened false = 3; open = 3; at 3 2 = 0; at 4 2 = 0
                """);
        Script.run("terms 3: a DOOR that opens lets another LAMP'S light through in the next ROUND", """
                lamp 0 0 0 = 0; lamp 45 3 1 = 1; thing 36 1 0 = 1; thing 38 3 0 = 2; thing 40 3 1 = 3; thing 2 1 1 = 4
                opened true = 2; opened false = 2; open = 2; at 38 2 = 1; at 40 2 = 1; open = 0
                """);
        Script.run("terms 3: OPENED are those OPEN behind all ROUNDS, those that were OPEN too", """
                lamp 0 0 0 = 0; thing 1 3 0 = 1; open = 1; opened false = 1; opened true = 0; thing 3 3 0 = 2
                opened false = 2; opened true = 1; face 0 1 = 0; opened false = 1; opened true = 0
                """);
        Script.run("terms 3: DOORS at the first FIELD and at the last open, too", """
                lamp 4 2 1 = 0; lamp 76 0 2 = 1; thing 0 3 1 = 1; thing 80 3 2 = 2; lit 0 = 2; lit 80 = 4; bright 1 = 5
                bright 2 = 5
                opened false = 2; open = 2; at 0 2 = 1; at 80 2 = 1; all 4 = 2; opened false = 2
                """);
        Script.run("promise 22: as if, they stay as they are", """
                lamp 0 0 0 = 0; thing 1 3 0 = 1; opened false = 1; opened true = 1; at 1 2 = 0; all 4 = 0; path 0 0 = 1; undo = 1
                """);
        Script.run("promise 23: how many opened, not how many are OPEN", """
                lamp 0 0 0 = 0; thing 1 3 0 = 1; open = 1; open = 0; thing 3 3 0 = 2; open = 1; all 4 = 2; shut 1 = 1; open = 1
                """);
        Script.run("terms 3: nothing closes them", """
                lamp 0 0 0 = 0; thing 1 3 0 = 1; open = 1; face 0 1 = 0; open = 0; at 1 2 = 1; out = 0; open = 0; at 1 2 = 1
                all 4 = 1
                """);
    }

    /** A DOOR at each FIELD of the snake that has no MIRROR and no LAMP: each ROUND opens one. */
    private static void manyRounds() {
        StringBuilder text = new StringBuilder(RaysEdgesTest.SNAKE + "lamp 0 1 0 = 0\n");
        int things = 16;
        for (int field = 1; field < 81; field++) {
            int x = field % 9;
            int y = field / 9;
            boolean isMirror = y == 8 && x < 8 || y == 0 && x > 0;
            if (!isMirror) {
                text.append("thing " + field + " 3 0 = " + ++things + "\n");
            }
        }
        Script.run("terms 3: as many ROUNDS as there are DOORS", text + """
                all 1 = 80; opened true = 64; opened false = 64; bright 0 = 2; open = 64; open = 0; all 4 = 64; bright 0 = 81
                opened true = 0; opened false = 64; shut 9 = 1; bright 0 = 2; opened true = 1; opened false = 64
                """);
    }

    private static void turnsBeyond() {
        Edges.limits("promise 24: no such LAMP, there is none", "", "turns N 0", 0, -1);
        Edges.limits("promise 24: no such LAMP, there is one", "lamp 0 0 0", "turns N 0", 0, 0);
        Edges.limits("promise 24: no such LAMP, there are six", SIX_LAMPS, "turns N 9", 0, 5);
        Edges.fields("promise 24: no such FIELD", "lamp 0 0 0", "turns 0 N");
        Script.run("promise 24: BEYOND is asked ahead of NONE", """
                lamp 0 0 0 = 0; turns 0 9 = NONE; turns 1 9 = BEYOND; turns 0 81 = BEYOND
                """);
    }

    private static void turnsNone() {
        Script.run("promise 24: NONE, there is no such set", LAMP_AND_TABLE + """
                turns 0 3 = NONE; turns 0 9 = NONE; turns 0 2 = 0; turns 0 20 = 0
                """);
        Script.run("promise 24: without TABLES, the empty set or NONE", """
                lamp 0 0 0 = 0; turns 0 8 = 0; turns 0 0 = 0; turns 0 9 = NONE; all 5 = 1
                """);
        Script.run("promise 24: a WALL is in no SPREAD", LAMP_AND_TABLE + """
                thing 20 0 0 = 2; turns 0 11 = 0; turns 0 20 = NONE; turns 0 29 = NONE
                """);
        Script.run("promise 24: a DOOR at which the RAY ENDS is not in THE SPREAD", LAMP_AND_TABLE + """
                thing 20 3 0 = 2; lit 20 = 1; turns 0 20 = NONE; open = 1; turns 0 20 = 0; turns 0 29 = 0; shut 20 = 1
                turns 0 29 = NONE
                """);
        Script.run("promise 24: MIRRORS and HALVES are not TURNED", """
                lamp 0 0 0 = 0; thing 2 1 1 = 1; turns 0 3 = NONE; clear 2 = 1; thing 2 2 0 = 1; turns 0 11 = NONE
                turns 0 3 = 0
                """);
        Script.run("promise 24: as if, TABLES stay as they are", """
                lamp 0 0 0 = 0; thing 2 4 0 = 1; turns 0 20 = 1; at 2 1 = 0; at 2 0 = 4; path 0 0 = 3; undo = 1
                """);
    }

    private static void turnsFewest() {
        Script.run("promise 24: the empty set is the fewest", LAMP_AND_TABLE + "turns 0 74 = 0; turns 0 0 = 0; turns 0 2 = 0");
        Script.run("promise 24: a TABLE itself, come to behind another", """
                lamp 0 0 0 = 0; thing 2 4 0 = 1; thing 38 4 0 = 2; turns 0 2 = 0; turns 0 38 = 1; turns 0 36 = 1
                turns 0 40 = 3
                """);
        Script.run("promise 24: of several sets of as many, the least as bits", """
                lamp 36 0 0 = 0; thing 38 2 1 = 1; thing 40 4 0 = 2; thing 65 4 0 = 3
                turns 0 67 = 1; turns 0 66 = 2; turns 0 58 = 1; turns 0 64 = 0     # 2 would do for 67, too
                thing 58 0 0 = 4; turns 0 67 = 2; clear 58 = 0; thing 66 0 0 = 4; turns 0 67 = 1
                """);
        Script.run("promise 24: fewer TABLES go ahead of less as bits", """
                lamp 0 0 0 = 0; thing 2 2 1 = 1; thing 4 4 0 = 2; thing 31 4 0 = 3; thing 56 4 0 = 4; thing 62 1 0 = 5
                turns 0 35 = 4; clear 56 = 4; turns 0 35 = 3
                """);
        Script.run("terms 3: TABLES are numbered by their FIELDS, rising, not by when they came", """
                lamp 0 0 0 = 0; thing 38 4 0 = 1; thing 2 4 0 = 2; turns 0 38 = 1; turns 0 40 = 3; turn 1 = 1; at 2 1 = 1
                at 38 1 = 0
                thing 1 4 0 = 3; turns 0 1 = 0; turn 4 = 1; at 38 1 = 1
                """);
        Script.run("promise 24: another LAMP has another SPREAD", LAMP_AND_TABLE + """
                lamp 6 2 1 = 1; turns 1 20 = 1; turns 0 20 = 0; turns 1 0 = NONE; turns 0 6 = NONE
                """);
        Script.run("promise 24: a TABLE that a RAY comes to twice", """
                lamp 36 0 0 = 0; thing 40 4 1 = 1; thing 76 1 1 = 2; thing 80 1 0 = 3; thing 44 1 1 = 4; lit 44 = 1
                turns 0 41 = 0; turns 0 4 = 0
                turns 0 31 = 0; turn 1 = 1; turns 0 44 = 1; turns 0 4 = 0
                """);
    }

    private static void turnsOfMany() {
        Script.run("promise 24: all of ten TABLES, and none of them", """
                lamp 0 0 0 = 0; thing 1 4 0 = 1; thing 10 4 0 = 2; thing 11 4 0 = 3; thing 20 4 0 = 4; thing 21 4 0 = 5
                thing 30 4 0 = 6; thing 31 4 0 = 7; thing 40 4 0 = 8; thing 41 4 0 = 9; thing 50 4 0 = 10
                turns 0 51 = 1023; turns 0 50 = 511; turns 0 10 = 1; turn 1023 = 10; turns 0 51 = 0; turns 0 49 = 512
                turns 0 2 = 4; turns 0 59 = NONE; turns 0 3 = 16
                """);
        Script.run("promise 24: two TABLES that help only together, though one is met without the other", """
                lamp 36 0 0 = 0; thing 38 4 0 = 1; thing 2 1 0 = 2; thing 6 1 1 = 3; thing 42 4 0 = 4; thing 74 1 1 = 5
                thing 76 1 0 = 6
                thing 40 1 0 = 7; turns 0 60 = 3; turns 0 44 = 2; turns 0 41 = 0; turns 0 75 = 0; turns 0 80 = NONE
                """);
        Script.run("promise 24: the least as bits, though its TABLE is met last", """
                lamp 54 0 0 = 0; thing 58 4 0 = 1; thing 40 4 0 = 2; thing 76 1 0 = 3; thing 72 1 1 = 4
                turns 0 36 = 1; turns 0 73 = 2; turns 0 44 = 0     # 2 would do for 36, too
                """);
        Script.run("promise 24: the fewest, though its TABLE is the highest", """
                lamp 54 0 0 = 0; thing 58 4 0 = 1; thing 40 4 0 = 2; thing 38 4 0 = 3; thing 76 1 0 = 4; thing 72 1 1 = 5
                thing 0 1 0 = 6
                turns 0 2 = 4; turns 0 1 = 4; turns 0 11 = 3; thing 1 0 0 = 7; turns 0 2 = 3
                """);
        Script.run("promise 24: a TABLE at the first FIELD, and at the last", """
                lamp 36 3 0 = 0; thing 0 4 1 = 1; turns 0 0 = 0; turns 0 1 = 1; thing 80 4 0 = 2; lamp 44 1 1 = 1
                turns 1 80 = 0; turns 1 79 = 0
                lean 80 = 1; turns 1 79 = 2
                """);
        Script.run("promise 24: FIELD 0 is no TABLE where there is none", """
                lamp 8 2 0 = 0; turns 0 0 = 0; turns 0 9 = NONE; thing 80 4 0 = 1; turns 0 9 = NONE
                """);
    }

    private static void turnSets() {
        StringBuilder tables = new StringBuilder();
        for (int n = 0; n <= 10; n++) {
            int most = (1 << n) - 1;
            Edges.limits("promise 25: a bit of none, with " + n + " TABLES", tables.toString(), "turn N", 0, most);
            Script.run("promise 25: all of " + n + " TABLES, and a bit of none", tables + "turn " + most + " = " + n
                    + "; turn " + (most + 1) + " = BEYOND; turn " + (most + 2) + " = BEYOND\n"
                    + "turn -2147483648 = BEYOND; turn -1 = BEYOND; turn 0 = 0");
            tables.append("thing " + (80 - 7 * n) + " 4 " + n % 2 + " = " + (n + 1) + "\n");
        }
        Script.run("promise 25: the empty set", "turn 0 = 0; thing 0 4 1 = 1; turn 0 = 0; at 0 1 = 1");
        Script.run("promise 25: the first and the last TABLE", """
                thing 80 4 0 = 1; thing 0 4 0 = 2; turn 2 = 1; at 80 1 = 1; at 0 1 = 0; turn 1 = 1; at 0 1 = 1
                """);
        Script.run("promise 25: MIRRORS and HALVES are no TABLES", """
                thing 0 1 0 = 1; thing 1 2 0 = 2; turn 1 = BEYOND; thing 2 4 0 = 3; turn 1 = 1; at 0 1 = 0; at 1 1 = 0
                at 2 1 = 1
                """);
        Script.run("promise 25: a TABLE that went leaves no bit", """
                thing 0 4 0 = 1; thing 1 4 0 = 2; turn 3 = 2; clear 0 = 4; turn 2 = BEYOND; turn 1 = 1; at 1 1 = 0
                """);
    }
}
