import java.util.ArrayList;
import java.util.List;

/**
 * All of a maze that calls can show: the floor with its lamps, the sheets, and what can be undone.
 * As the looking itself changes a maze, two equal ones are made, and each part is looked at in new ones.
 */
final class Probe {
    /** 10 TABLES, 6 LAMPS, an OPEN DOOR, sheets of all sorts, and more than 20 acts behind it. */
    static final String FURNISHED = """
            sheet 0 8 30; put 0 0 1; put 0 1 4; put 0 9 2; put 0 29 7; sheet 1 16 3; put 1 0 3; put 1 2 8; sheet 2 8 0
            floor 8 7
            thing 9 4 0; thing 10 4 1; thing 11 4 0; thing 12 4 1; thing 13 4 0; thing 14 4 1; thing 15 4 0; thing 16 4 1
            thing 18 4 0; thing 20 4 1
            thing 27 0 0; thing 28 1 1; thing 29 2 0; thing 30 3 2; thing 31 3 0
            lamp 36 0 0; lamp 39 3 2; lamp 45 2 0; lamp 46 1 1; lamp 49 0 2; lamp 54 3 1
            open; face 3 2
            """;
    /** A few acts, so that one more drives none out of what can be undone. */
    static final String FEW = """
            sheet 0 8 9; put 0 0 1; put 0 3 6; sheet 1 16 2; sheet 2 8 2
            floor 8 7; thing 9 4 0; thing 28 1 1; thing 30 3 2; thing 32 3 2; thing 27 0 0; lamp 39 3 2; lamp 36 0 1; open
            """;
    static final String NEW = "";

    private static final List<List<String>> PARTS = List.of(floorPart(), sheetsPart(), pastPart());

    private Probe() {
    }

    /** Behind the setting and one call (or several), the maze shows itself as behind the setting alone. */
    static void same(String name, String setting, String calls) {
        for (List<String> part : PARTS) {
            MirrorMaze one = Edges.settled(setting + "\n" + calls);
            MirrorMaze other = Edges.settled(setting);
            int made = Script.rowsOf(setting + "\n" + calls).size();
            if (made + part.size() > Script.MOST_CALLS) {
                throw new IllegalArgumentException("too many calls: " + (made + part.size()));
            }
            for (String look : part) {
                Script.due(name, look + " behind " + calls, Script.call(one, look), Script.call(other, look));
            }
        }
    }

    private static List<String> floorPart() {
        List<String> looks = new ArrayList<>();
        for (int what = 0; what < 5; what++) {
            looks.add("all " + what);
        }
        for (int field = 0; field < 81; field++) {
            for (int what = 0; what < 4; what++) {
                looks.add("at " + field + " " + what);
            }
        }
        for (int field : new int[] {36, 39, 45, 46, 49, 54, 40, 30}) {
            looks.add("lit " + field);
        }
        for (int lamp = 0; lamp < 6; lamp++) {
            looks.add("face " + lamp + " 0");
        }
        return looks;
    }

    /** First what the sheets tell a row that has no lamps, then how long they are, then of how many bits. */
    private static List<String> sheetsPart() {
        List<String> looks = new ArrayList<>(List.of("floor 9 9"));
        for (int s = 0; s < 4; s++) {
            lookAtRow(looks, s);
            looks.add("copy " + s + " 9 " + s + " 0 9");
            lookAtRow(looks, s);
            looks.add("copy " + s + " 21 " + s + " 0 9");
            lookAtRow(looks, s);
            for (int i : new int[] {0, 1, 2, 3, 8, 9, 29, 30}) {
                looks.add("put " + s + " " + i + " 9");
            }
            looks.add("put " + s + " 0 257");
            looks.add("row 0 " + s);
            looks.add("at 0 0");
            looks.add("put " + s + " 0 65538");
            looks.add("row 0 " + s);
            looks.add("at 0 0");
        }
        return looks;
    }

    private static void lookAtRow(List<String> looks, int s) {
        looks.add("row 0 " + s);
        for (int x = 0; x < 9; x++) {
            looks.add("at " + x + " 0");
            looks.add("at " + x + " 1");
        }
    }

    private static List<String> pastPart() {
        List<String> looks = new ArrayList<>();
        for (int i = 0; i <= 20; i++) {
            looks.add("undo");
            for (int what = 0; what < 5; what++) {
                looks.add("all " + what);
            }
            for (int field : new int[] {9, 28, 30, 46}) {
                looks.add("at " + field + " 1");
                looks.add("at " + field + " 2");
            }
            looks.add("lit 40");
            looks.add("lit 45");
        }
        return looks;
    }
}
