import java.util.ArrayDeque;
import java.util.ArrayList;
import java.util.Arrays;
import java.util.Deque;
import java.util.HashSet;
import java.util.LinkedHashSet;
import java.util.List;
import java.util.Set;
import java.util.TreeMap;
import java.util.TreeSet;

/** The document's words, one by one, with no regard to speed; PlainTest compares MirrorMaze with it. */
final class PlainMaze {
    private static final int BEYOND = -100001;
    private static final int MISSING = -100002;
    private static final int SIZE = -100003;
    private static final int KIND = -100004;
    private static final int FULL = -100005;
    private static final int NONE = -100006;
    private static final int TAKEN = -100007;

    private record Thing(int kind, int of, boolean open) {
        boolean mirrors() {
            return kind == 1 || kind == 2 || kind == 4;
        }
    }

    private record Lamp(int field, int way, int colour) {
    }

    private record Place(int field, int way) {
        int number() {
            return 4 * field + way;
        }
    }

    private record State(int wide, int deep, TreeMap<Integer, Thing> things, List<Lamp> lamps) {
        State copied() {
            return new State(wide, deep, new TreeMap<>(things), new ArrayList<>(lamps));
        }
    }

    private record Sheet(int bits, long[] numbers) {
    }

    /** A spread: its places, the fields come to by going, and the doors at which it ends. */
    private record Rays(Set<Place> places, Set<Integer> come, Set<Integer> doors) {
    }

    private State now = new State(9, 9, new TreeMap<>(), new ArrayList<>());
    private final Deque<State> past = new ArrayDeque<>();
    private final Sheet[] sheets = new Sheet[4];
    private int findings = 0;

    int answer(String name, int[] a) {
        int answer = act(name, a);
        if (answer < -99999) {
            findings++;
        }
        if (name.equals("all") && a[0] == 5) {
            return findings;
        }
        return answer;
    }

    private int act(String name, int[] a) {
        return switch (name) {
            case "floor" -> setFloor(a[0], a[1]);
            case "thing" -> addThing(a[0], a[1], a[2]);
            case "clear" -> removeThing(a[0]);
            case "as" -> asKind(a[0], a[1]);
            case "at" -> whatIsAt(a[0], a[1]);
            case "lean" -> leanOther(a[0]);
            case "shut" -> shutDoor(a[0]);
            case "path" -> !isPlace(a[0], a[1]) ? BEYOND : pathOf(new Place(a[0], a[1])).size();
            case "step" -> stepOf(a[0], a[1], a[2]);
            case "closes" -> !isPlace(a[0], a[1]) ? BEYOND : isClosed(new Place(a[0], a[1])) ? 1 : 0;
            case "spread" -> spreadSize(a[0], a[1], a[2] == 1);
            case "sees" -> !isField(a[0]) || !isField(a[1]) ? BEYOND : waysSeen(a[0], a[1]);
            case "seen" -> countSeers(a[0]);
            case "rings" -> closedRays().size();
            case "ring" -> ringOf(a[0], a[1] == 1);
            case "lamp" -> addLamp(a[0], a[1], a[2]);
            case "out" -> lampOut();
            case "face" -> turnLamp(a[0], a[1]);
            case "lit" -> !isField(a[0]) ? BEYOND : coloursAt(now, a[0]);
            case "bright" -> countBright(a[0]);
            case "opened" -> roundsAsIf(a[0] == 1);
            case "open" -> openDoors();
            case "turns" -> fewestTurns(a[0], a[1]);
            case "turn" -> turnSet(a[0]);
            case "far" -> farOf(a[0], a[1]);
            case "first" -> firstOf(a[0], a[1]);
            case "reach" -> reachOf(a[0]);
            case "visit" -> stepsOfVisitor(a[0], a[1]);
            case "sheet" -> makeSheet(a[0], a[1], a[2]);
            case "put" -> putNumber(a[0], a[1], a[2]);
            case "copy" -> copyNumbers(a[0], a[1], a[2], a[3], a[4]);
            case "row" -> tellRow(a[0], a[1]);
            case "undo" -> takeBack();
            case "all" -> whole(a[0]);
            default -> throw new IllegalArgumentException(name);
        };
    }

    int wide() {
        return now.wide;
    }

    int deep() {
        return now.deep;
    }

    // the floor

    private void keep() {
        past.addLast(now.copied());
        if (past.size() > 20) {
            past.removeFirst();
        }
    }

    private boolean isField(int field) {
        for (int y = 0; y < now.deep; y++) {
            for (int x = 0; x < now.wide; x++) {
                if (field == 9 * y + x) {
                    return true;
                }
            }
        }
        return false;
    }

    private List<Integer> fields() {
        List<Integer> list = new ArrayList<>();
        for (int field = 0; field < 81; field++) {
            if (isField(field)) {
                list.add(field);
            }
        }
        return list;
    }

    private static boolean within(int value, int least, int most) {
        return least <= value && value <= most;
    }

    private boolean isPlace(int field, int way) {
        return isField(field) && within(way, 0, 3);
    }

    private int lampNumberAt(int field) {
        for (Lamp lamp : now.lamps) {
            if (lamp.field == field) {
                return now.lamps.indexOf(lamp);
            }
        }
        return -1;
    }

    private int setFloor(int wide, int deep) {
        if (!within(wide, 1, 9) || !within(deep, 1, 9)) {
            return BEYOND;
        }
        keep();
        now = new State(wide, deep, now.things, now.lamps);
        now.things.keySet().removeIf(field -> !isField(field));
        now.lamps.removeIf(lamp -> !isField(lamp.field));
        return now.things.size() + now.lamps.size();
    }

    private int countTables() {
        return tables(now).size();
    }

    private static List<Integer> tables(State state) {
        List<Integer> list = new ArrayList<>();
        state.things.forEach((field, thing) -> {
            if (thing.kind == 4) {
                list.add(field);
            }
        });
        return list;
    }

    private int addThing(int field, int kind, int of) {
        int[] most = {0, 1, 1, 2, 1};
        if (!isField(field) || !within(kind, 0, 4) || !within(of, 0, most[kind])) {
            return BEYOND;
        }
        if (now.things.containsKey(field) || lampNumberAt(field) >= 0) {
            return TAKEN;
        }
        if (kind == 4 && countTables() == 10) {
            return FULL;
        }
        keep();
        now.things.put(field, new Thing(kind, of, false));
        return now.things.size();
    }

    private int removeThing(int field) {
        if (!isField(field)) {
            return BEYOND;
        }
        if (!now.things.containsKey(field)) {
            return NONE;
        }
        keep();
        return now.things.remove(field).kind;
    }

    private int asKind(int field, int kind) {
        if (!isField(field) || !within(kind, 0, 4)) {
            return BEYOND;
        }
        Thing thing = now.things.get(field);
        if (thing == null) {
            return NONE;
        }
        boolean fits = thing.kind == kind || kind == 0 || kind == 1 && thing.mirrors();
        return fits ? field : KIND;
    }

    private int whatIsAt(int field, int what) {
        if (!isField(field) || !within(what, 0, 3)) {
            return BEYOND;
        }
        Thing thing = now.things.get(field);
        return switch (what) {
            case 0 -> thing == null ? -1 : thing.kind;
            case 1 -> thing == null ? 0 : thing.of;
            case 2 -> thing != null && thing.open ? 1 : 0;
            default -> lampNumberAt(field);
        };
    }

    private int leanOther(int field) {
        if (!isField(field)) {
            return BEYOND;
        }
        Thing thing = now.things.get(field);
        if (thing == null) {
            return NONE;
        }
        if (!thing.mirrors()) {
            return KIND;
        }
        keep();
        now.things.put(field, new Thing(thing.kind, 1 - thing.of, false));
        return 1 - thing.of;
    }

    private int shutDoor(int field) {
        if (!isField(field)) {
            return BEYOND;
        }
        Thing thing = now.things.get(field);
        if (thing == null) {
            return NONE;
        }
        if (thing.kind != 3) {
            return KIND;
        }
        keep();
        now.things.put(field, new Thing(3, thing.of, false));
        return thing.open ? 1 : 0;
    }

    // rays

    /** The field beside one, or -1. */
    private int beside(int field, int way) {
        int x = field % 9;
        int y = field / 9;
        switch (way) {
            case 0 -> x++;
            case 1 -> y++;
            case 2 -> x--;
            default -> y--;
        }
        return within(x, 0, now.wide - 1) && within(y, 0, now.deep - 1) ? 9 * y + x : -1;
    }

    private static int otherWay(int lean, int way) {
        int[][] changed = {{3, 2, 1, 0}, {1, 0, 3, 2}};
        return changed[lean][way];
    }

    /** The places to which a ray goes on, that by a mirror first; none if it ends. */
    private List<Place> onward(State state, Place place) {
        int next = beside(place.field, place.way);
        if (next < 0) {
            return List.of();
        }
        Thing thing = state.things.get(next);
        Place straight = new Place(next, place.way);
        if (thing == null || thing.kind == 3 && thing.open) {
            return List.of(straight);
        }
        if (!thing.mirrors()) {
            return List.of();
        }
        Place turned = new Place(next, otherWay(thing.of, place.way));
        return thing.kind == 2 ? List.of(turned, straight) : List.of(turned);
    }

    private List<Place> pathOf(Place first) {
        List<Place> path = new ArrayList<>();
        Place place = first;
        while (place != null && !path.contains(place)) {
            path.add(place);
            List<Place> next = onward(now, place);
            place = next.isEmpty() ? null : next.get(0);
        }
        return path;
    }

    private boolean isClosed(Place first) {
        List<Place> path = pathOf(first);
        List<Place> next = onward(now, path.get(path.size() - 1));
        return !next.isEmpty() && next.get(0).equals(first);
    }

    private int stepOf(int field, int way, int i) {
        if (!isPlace(field, way)) {
            return BEYOND;
        }
        List<Place> path = pathOf(new Place(field, way));
        return within(i, 0, path.size() - 1) ? path.get(i).number() : BEYOND;
    }

    private Rays spreadOf(State state, Place first) {
        Rays rays = new Rays(new LinkedHashSet<>(), new HashSet<>(), new HashSet<>());
        spreadOn(state, first, rays);
        return rays;
    }

    private void spreadOn(State state, Place place, Rays rays) {
        if (!rays.places.add(place)) {
            return;
        }
        int next = beside(place.field, place.way);
        List<Place> onward = onward(state, place);
        if (next >= 0 && onward.isEmpty() && state.things.get(next).kind == 3) {
            rays.doors.add(next);
        }
        for (Place other : onward) {
            rays.come.add(other.field);
            spreadOn(state, other, rays);
        }
    }

    private static Set<Integer> fieldsOf(Rays rays) {
        Set<Integer> fields = new TreeSet<>();
        rays.places.forEach(place -> fields.add(place.field));
        return fields;
    }

    private int spreadSize(int field, int way, boolean fields) {
        if (!isPlace(field, way)) {
            return BEYOND;
        }
        Rays rays = spreadOf(now, new Place(field, way));
        return fields ? fieldsOf(rays).size() : rays.places.size();
    }

    private int waysSeen(int field, int other) {
        int ways = 0;
        for (int way = 0; way < 4; way++) {
            if (spreadOf(now, new Place(field, way)).come.contains(other)) {
                ways += 1 << way;
            }
        }
        return ways;
    }

    private int countSeers(int field) {
        if (!isField(field)) {
            return BEYOND;
        }
        int n = 0;
        for (int other : fields()) {
            n += waysSeen(other, field) != 0 ? 1 : 0;
        }
        return n;
    }

    private List<List<Place>> closedRays() {
        List<List<Place>> rings = new ArrayList<>();
        Set<Place> done = new HashSet<>();
        for (int field : fields()) {
            for (int way = 0; way < 4; way++) {
                Place place = new Place(field, way);
                if (!done.contains(place) && isClosed(place)) {
                    rings.add(pathOf(place));
                    done.addAll(pathOf(place));
                }
            }
        }
        return rings;
    }

    private int ringOf(int i, boolean least) {
        List<List<Place>> rings = closedRays();
        if (!within(i, 0, rings.size() - 1)) {
            return NONE;
        }
        return least ? rings.get(i).get(0).number() : rings.get(i).size();
    }

    // lamps, doors, tables

    private int addLamp(int field, int way, int colour) {
        if (!isPlace(field, way) || !within(colour, 0, 2)) {
            return BEYOND;
        }
        if (now.things.containsKey(field) || lampNumberAt(field) >= 0) {
            return TAKEN;
        }
        if (now.lamps.size() == 6) {
            return FULL;
        }
        keep();
        now.lamps.add(new Lamp(field, way, colour));
        return now.lamps.size() - 1;
    }

    private int lampOut() {
        if (now.lamps.isEmpty()) {
            return NONE;
        }
        keep();
        now.lamps.remove(now.lamps.size() - 1);
        return now.lamps.size();
    }

    private int turnLamp(int number, int way) {
        if (!within(number, 0, now.lamps.size() - 1) || !within(way, 0, 3)) {
            return BEYOND;
        }
        keep();
        Lamp lamp = now.lamps.get(number);
        now.lamps.set(number, new Lamp(lamp.field, way, lamp.colour));
        return lamp.way;
    }

    private int coloursAt(State state, int field) {
        int colours = 0;
        for (Lamp lamp : state.lamps) {
            Rays rays = spreadOf(state, new Place(lamp.field, lamp.way));
            if (fieldsOf(rays).contains(field) || rays.doors.contains(field)) {
                colours |= 1 << lamp.colour;
            }
        }
        return colours;
    }

    private int countBright(int colour) {
        if (!within(colour, 0, 2)) {
            return BEYOND;
        }
        int n = 0;
        for (int field : fields()) {
            n += coloursAt(now, field) >> colour & 1;
        }
        return n;
    }

    /** All doors that are lit by their colour open: how many. */
    private int round(State state) {
        List<Integer> opening = new ArrayList<>();
        state.things.forEach((field, thing) -> {
            if (thing.kind == 3 && !thing.open && (coloursAt(state, field) >> thing.of & 1) == 1) {
                opening.add(field);
            }
        });
        opening.forEach(field -> state.things.put(field, new Thing(3, state.things.get(field).of, true)));
        return opening.size();
    }

    private static int countOpen(State state) {
        return (int) state.things.values().stream().filter(Thing::open).count();
    }

    private int roundsAsIf(boolean rounds) {
        State state = now.copied();
        int n = 0;
        while (round(state) > 0) {
            n++;
        }
        return rounds ? n : countOpen(state);
    }

    private int openDoors() {
        keep();
        int before = countOpen(now);
        while (round(now) > 0) {
            continue;
        }
        return countOpen(now) - before;
    }

    private static void turnTables(State state, int set) {
        List<Integer> tables = tables(state);
        for (int i = 0; i < tables.size(); i++) {
            if ((set >> i & 1) == 1) {
                Thing table = state.things.get(tables.get(i));
                state.things.put(tables.get(i), new Thing(4, 1 - table.of, false));
            }
        }
    }

    private int fewestTurns(int number, int field) {
        if (!within(number, 0, now.lamps.size() - 1) || !isField(field)) {
            return BEYOND;
        }
        Lamp lamp = now.lamps.get(number);
        for (int fewest = 0; fewest <= countTables(); fewest++) {
            for (int set = 0; set < 1 << countTables(); set++) {
                if (Integer.bitCount(set) == fewest) {
                    State state = now.copied();
                    turnTables(state, set);
                    if (fieldsOf(spreadOf(state, new Place(lamp.field, lamp.way))).contains(field)) {
                        return set;
                    }
                }
            }
        }
        return NONE;
    }

    private int turnSet(int set) {
        if (set < 0 || set >= 1 << countTables()) {
            return BEYOND;
        }
        keep();
        turnTables(now, set);
        return Integer.bitCount(set);
    }

    // walks

    private boolean isWalkable(int field) {
        Thing thing = now.things.get(field);
        return thing == null || thing.open;
    }

    /** The fewest steps, found by letting all fields take their neighbours' counts till none changes. */
    private int steps(int from, int to) {
        if (!isWalkable(from) || !isWalkable(to)) {
            return NONE;
        }
        int[] far = new int[81];
        Arrays.fill(far, 1000);
        far[from] = 0;
        boolean changed = true;
        while (changed) {
            changed = false;
            for (int field : fields()) {
                for (int way = 0; way < 4; way++) {
                    int next = beside(field, way);
                    if (isWalkable(field) && next >= 0 && isWalkable(next) && far[next] + 1 < far[field]) {
                        far[field] = far[next] + 1;
                        changed = true;
                    }
                }
            }
        }
        return far[to] < 1000 ? far[to] : NONE;
    }

    private int farOf(int from, int to) {
        return isField(from) && isField(to) ? steps(from, to) : BEYOND;
    }

    private int firstWay(int from, int to) {
        int far = steps(from, to);
        for (int way = 0; way < 4 && far > 0; way++) {
            int next = beside(from, way);
            if (next >= 0 && steps(next, to) == far - 1) {
                return way;
            }
        }
        return NONE;
    }

    private int firstOf(int from, int to) {
        return isField(from) && isField(to) ? firstWay(from, to) : BEYOND;
    }

    private int reachOf(int from) {
        if (!isField(from)) {
            return BEYOND;
        }
        if (!isWalkable(from)) {
            return NONE;
        }
        int n = 0;
        for (int field : fields()) {
            n += steps(from, field) >= 0 ? 1 : 0;
        }
        return n;
    }

    private int stepsOfVisitor(int from, int to) {
        if (!isField(from) || !isField(to)) {
            return BEYOND;
        }
        if (steps(from, to) < 0) {
            return NONE;
        }
        Set<Integer> been = new HashSet<>();
        int field = from;
        while (field != to) {
            if (!been.add(field)) {
                return NONE;
            }
            int chosen = -1;
            int ways = waysSeen(field, to);
            for (int way = 3; way >= 0; way--) {
                int next = beside(field, way);
                if ((ways >> way & 1) == 1 && next >= 0 && isWalkable(next)) {
                    chosen = way;
                }
            }
            field = beside(field, chosen >= 0 ? chosen : firstWay(field, to));
        }
        return been.size();
    }

    // sheets, the whole

    private int makeSheet(int s, int bits, int n) {
        if (!within(s, 0, 3) || !List.of(0, 8, 16, 32).contains(bits)) {
            return BEYOND;
        }
        if (n < 0) {
            return SIZE;
        }
        if (n > 30) {
            return BEYOND;
        }
        sheets[s] = bits == 0 ? null : new Sheet(bits, new long[n]);
        return bits == 0 ? 0 : n;
    }

    private int putNumber(int s, int i, int v) {
        if (!within(s, 0, 3)) {
            return BEYOND;
        }
        if (sheets[s] == null) {
            return MISSING;
        }
        if (!within(i, 0, sheets[s].numbers.length - 1)) {
            return BEYOND;
        }
        sheets[s].numbers[i] = Math.floorMod((long) v, 1L << sheets[s].bits);
        return 0;
    }

    private int copyNumbers(int s, int from, int t, int to, int n) {
        if (!within(s, 0, 3) || !within(t, 0, 3)) {
            return BEYOND;
        }
        if (sheets[s] == null || sheets[t] == null) {
            return MISSING;
        }
        if (sheets[s].bits != sheets[t].bits) {
            return KIND;
        }
        boolean fits = (long) from + n <= sheets[s].numbers.length && (long) to + n <= sheets[t].numbers.length;
        if (!fits || from < 0 || to < 0 || n < 0) {
            return BEYOND;
        }
        long[] read = Arrays.copyOfRange(sheets[s].numbers, from, from + n);
        for (int i = 0; i < n; i++) {
            sheets[t].numbers[to + i] = read[i];
        }
        return n;
    }

    private int tellRow(int y, int s) {
        if (!within(y, 0, now.deep - 1) || !within(s, 0, 3)) {
            return BEYOND;
        }
        if (sheets[s] == null) {
            return MISSING;
        }
        keep();
        int[][] meanings = {{-1, 0}, {0, 0}, {1, 0}, {1, 1}, {2, 0}, {2, 1}, {3, 0}, {3, 1}, {3, 2}};
        int told = 0;
        for (int x = 0; x < Math.min(now.wide, sheets[s].numbers.length); x++) {
            long number = sheets[s].numbers[x];
            int field = 9 * y + x;
            if (number <= 8 && lampNumberAt(field) < 0) {
                int[] meaning = meanings[(int) number];
                now.things.remove(field);
                if (meaning[0] >= 0) {
                    now.things.put(field, new Thing(meaning[0], meaning[1], false));
                }
                told++;
            }
        }
        return told;
    }

    private int takeBack() {
        if (past.isEmpty()) {
            return NONE;
        }
        now = past.removeLast();
        return past.size();
    }

    private int whole(int what) {
        return switch (what) {
            case 0 -> fields().size();
            case 1 -> now.things.size();
            case 2 -> now.lamps.size();
            case 3 -> countTables();
            case 4 -> countOpen(now);
            case 5 -> 0;
            default -> BEYOND;
        };
    }
}
