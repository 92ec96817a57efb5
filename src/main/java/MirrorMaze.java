import java.util.Arrays;

/** A maze of mirrors on a floor of fields; what each call answers stands in DOC.md. */
public final class MirrorMaze {
    private static final int BEYOND = -100001;
    private static final int MISSING = -100002;
    private static final int SIZE = -100003;
    private static final int KIND = -100004;
    private static final int FULL = -100005;
    private static final int NONE = -100006;
    private static final int TAKEN = -100007;

    private static final int SIDE = 9;
    private static final int FIELDS = SIDE * SIDE;
    private static final int WAYS = 4;
    /** A place is a FIELD with a WAY: 4 times the FIELD, and the WAY. */
    private static final int PLACES = FIELDS * WAYS;
    private static final int COLOURS = 3;
    private static final int MOST_LAMPS = 6;
    private static final int MOST_TABLES = 10;
    private static final int MOST_UNDONE = 20;
    private static final int SHEETS = 4;
    private static final int SHEET_LENGTH = 30;

    private static final int FREE = -1;
    private static final int WALL = 0;
    private static final int MIRROR = 1;
    private static final int HALF = 2;
    private static final int DOOR = 3;
    private static final int TABLE = 4;
    private static final int KINDS = 5;
    /** The kind that each kind is under; WALL is under none. */
    private static final int[] KIND_ABOVE = {-1, WALL, MIRROR, WALL, MIRROR};

    private static final int[] X_OF_WAY = {1, 0, -1, 0};
    private static final int[] Y_OF_WAY = {0, 1, 0, -1};

    private final Maze maze;
    /** A copy on which ROUNDS are done as if. */
    private final Maze trial;
    private final Past past;
    private final Path route;
    private final Spread rays;
    private final Rings closedRays;
    private final Light light;
    private final Turning turning;
    private final Walks walks;
    private final Visitor visitor;
    private final Sheets sheets;
    private int findings;

    public MirrorMaze() {
        maze = new Maze();
        trial = new Maze();
        past = new Past();
        route = new Path();
        rays = new Spread();
        closedRays = new Rings();
        light = new Light();
        turning = new Turning();
        walks = new Walks();
        visitor = new Visitor();
        sheets = new Sheets();
        findings = 0;
    }

    // ---- the floor

    public int floor(int wide, int deep) {
        if (!isSide(wide) || !isSide(deep)) {
            return finding(BEYOND);
        }
        past.keep(maze);
        maze.resize(wide, deep);
        return maze.countThings() + maze.lampCount;
    }

    public int thing(int field, int kind, int of) {
        if (!maze.hasField(field) || !isKind(kind) || !isOfKind(kind, of)) {
            return finding(BEYOND);
        }
        if (!maze.isVacant(field)) {
            return finding(TAKEN);
        }
        if (kind == TABLE && maze.countKind(TABLE) >= MOST_TABLES) {
            return finding(FULL);
        }
        past.keep(maze);
        maze.place(field, kind, of);
        return maze.countThings();
    }

    public int clear(int field) {
        if (!maze.hasField(field)) {
            return finding(BEYOND);
        }
        int kind = maze.kinds[field];
        if (kind == FREE) {
            return finding(NONE);
        }
        past.keep(maze);
        maze.place(field, FREE, 0);
        return kind;
    }

    public int as(int field, int kind) {
        if (!maze.hasField(field) || !isKind(kind)) {
            return finding(BEYOND);
        }
        if (maze.kinds[field] == FREE) {
            return finding(NONE);
        }
        if (!isUnder(maze.kinds[field], kind)) {
            return finding(KIND);
        }
        return field;
    }

    public int at(int field, int what) {
        if (!maze.hasField(field)) {
            return finding(BEYOND);
        }
        switch (what) {
            case 0:
                return maze.kinds[field];
            case 1:
                return maze.ofs[field];
            case 2:
                return maze.opens[field];
            case 3:
                return maze.lampAt(field);
            default:
                return finding(BEYOND);
        }
    }

    public int lean(int field) {
        if (!maze.hasField(field)) {
            return finding(BEYOND);
        }
        if (maze.kinds[field] == FREE) {
            return finding(NONE);
        }
        if (!isMirrorKind(maze.kinds[field])) {
            return finding(KIND);
        }
        past.keep(maze);
        maze.leanOver(field);
        return maze.ofs[field];
    }

    public int shut(int field) {
        if (!maze.hasField(field)) {
            return finding(BEYOND);
        }
        if (maze.kinds[field] == FREE) {
            return finding(NONE);
        }
        if (maze.kinds[field] != DOOR) {
            return finding(KIND);
        }
        past.keep(maze);
        int was = maze.opens[field];
        maze.opens[field] = 0;
        return was;
    }

    // ---- rays

    public int path(int field, int way) {
        if (!maze.hasField(field) || !isWay(way)) {
            return finding(BEYOND);
        }
        route.follow(maze, field, way);
        return route.length;
    }

    public int step(int field, int way, int i) {
        if (!maze.hasField(field) || !isWay(way)) {
            return finding(BEYOND);
        }
        route.follow(maze, field, way);
        if (i < 0 || i >= route.length) {
            return finding(BEYOND);
        }
        return route.places[i];
    }

    public int closes(int field, int way) {
        if (!maze.hasField(field) || !isWay(way)) {
            return finding(BEYOND);
        }
        route.follow(maze, field, way);
        return route.isClosed ? 1 : 0;
    }

    public int spread(int field, int way, boolean fields) {
        if (!maze.hasField(field) || !isWay(way)) {
            return finding(BEYOND);
        }
        rays.goFrom(maze, field, way);
        return fields ? rays.countFields() : rays.count;
    }

    public int sees(int field, int other) {
        if (!maze.hasField(field) || !maze.hasField(other)) {
            return finding(BEYOND);
        }
        int ways = 0;
        for (int way = 0; way < WAYS; way++) {
            rays.goFrom(maze, field, way);
            if (rays.comesTo(other)) {
                ways |= 1 << way;
            }
        }
        return ways;
    }

    public int seen(int field) {
        if (!maze.hasField(field)) {
            return finding(BEYOND);
        }
        return rays.countSeers(maze, field);
    }

    public int rings() {
        closedRays.find(maze);
        return closedRays.count;
    }

    public int ring(int i, boolean least) {
        closedRays.find(maze);
        if (i < 0 || i >= closedRays.count) {
            return finding(NONE);
        }
        return least ? closedRays.leasts[i] : closedRays.sizes[i];
    }

    // ---- lamps, doors, tables

    public int lamp(int field, int way, int colour) {
        if (!maze.hasField(field) || !isWay(way) || !isColour(colour)) {
            return finding(BEYOND);
        }
        if (!maze.isVacant(field)) {
            return finding(TAKEN);
        }
        if (maze.lampCount >= MOST_LAMPS) {
            return finding(FULL);
        }
        past.keep(maze);
        maze.addLamp(field, way, colour);
        return maze.lampCount - 1;
    }

    public int out() {
        if (maze.lampCount <= 0) {
            return finding(NONE);
        }
        past.keep(maze);
        maze.lampCount--;
        return maze.lampCount;
    }

    public int face(int lamp, int way) {
        if (!maze.hasLamp(lamp) || !isWay(way)) {
            return finding(BEYOND);
        }
        past.keep(maze);
        int was = maze.lampWays[lamp];
        maze.lampWays[lamp] = way;
        return was;
    }

    public int lit(int field) {
        if (!maze.hasField(field)) {
            return finding(BEYOND);
        }
        light.shine(maze);
        return light.colours[field];
    }

    public int bright(int colour) {
        if (!isColour(colour)) {
            return finding(BEYOND);
        }
        light.shine(maze);
        return light.countLit(colour);
    }

    public int opened(boolean rounds) {
        trial.become(maze);
        light.doRounds(trial);
        return rounds ? light.roundCount : trial.countOpen();
    }

    public int open() {
        past.keep(maze);
        light.doRounds(maze);
        return light.openedCount;
    }

    public int turns(int lamp, int field) {
        if (!maze.hasLamp(lamp) || !maze.hasField(field)) {
            return finding(BEYOND);
        }
        int set = turning.findFewest(maze, lamp, field);
        return set < 0 ? finding(NONE) : set;
    }

    public int turn(int set) {
        if (set >>> maze.countKind(TABLE) != 0) {
            return finding(BEYOND);
        }
        past.keep(maze);
        maze.turnTables(set);
        return Integer.bitCount(set);
    }

    // ---- walks

    public int far(int from, int to) {
        if (!maze.hasField(from) || !maze.hasField(to)) {
            return finding(BEYOND);
        }
        walks.measure(maze, from);
        return walks.fars[to] < 0 ? finding(NONE) : walks.fars[to];
    }

    public int first(int from, int to) {
        if (!maze.hasField(from) || !maze.hasField(to)) {
            return finding(BEYOND);
        }
        walks.measure(maze, to);
        int way = walks.wayNearer(maze, from);
        return way < 0 ? finding(NONE) : way;
    }

    public int reach(int from) {
        if (!maze.hasField(from)) {
            return finding(BEYOND);
        }
        if (!maze.isWalkable(from)) {
            return finding(NONE);
        }
        walks.measure(maze, from);
        return walks.count;
    }

    public int visit(int from, int to) {
        if (!maze.hasField(from) || !maze.hasField(to)) {
            return finding(BEYOND);
        }
        int steps = visitor.countSteps(maze, from, to);
        return steps < 0 ? finding(NONE) : steps;
    }

    // ---- sheets, the whole

    public int sheet(int s, int bits, int n) {
        if (!isSheet(s) || !isBits(bits)) {
            return finding(BEYOND);
        }
        if (n < 0) {
            return finding(SIZE);
        }
        if (n > SHEET_LENGTH) {
            return finding(BEYOND);
        }
        sheets.make(s, bits, bits == 0 ? 0 : n);
        return sheets.lengths[s];
    }

    public int put(int s, int i, int v) {
        if (!isSheet(s)) {
            return finding(BEYOND);
        }
        if (sheets.isMissing(s)) {
            return finding(MISSING);
        }
        if (i < 0 || i >= sheets.lengths[s]) {
            return finding(BEYOND);
        }
        sheets.write(s, i, v);
        return 0;
    }

    public int copy(int s, int from, int t, int to, int n) {
        if (!isSheet(s) || !isSheet(t)) {
            return finding(BEYOND);
        }
        if (sheets.isMissing(s) || sheets.isMissing(t)) {
            return finding(MISSING);
        }
        if (sheets.bits[s] != sheets.bits[t]) {
            return finding(KIND);
        }
        if (!sheets.hasPart(s, from, n) || !sheets.hasPart(t, to, n)) {
            return finding(BEYOND);
        }
        sheets.transfer(s, from, t, to, n);
        return n;
    }

    public int row(int y, int s) {
        if (y < 0 || y >= maze.deep || !isSheet(s)) {
            return finding(BEYOND);
        }
        if (sheets.isMissing(s)) {
            return finding(MISSING);
        }
        past.keep(maze);
        int told = 0;
        for (int x = 0; x < maze.wide && x < sheets.lengths[s]; x++) {
            if (maze.tell(SIDE * y + x, sheets.read(s, x))) {
                told++;
            }
        }
        return told;
    }

    public int undo() {
        if (past.count <= 0) {
            return finding(NONE);
        }
        past.restore(maze);
        return past.count;
    }

    public int all(int what) {
        switch (what) {
            case 0:
                return maze.wide * maze.deep;
            case 1:
                return maze.countThings();
            case 2:
                return maze.lampCount;
            case 3:
                return maze.countKind(TABLE);
            case 4:
                return maze.countOpen();
            case 5:
                return findings;
            default:
                return finding(BEYOND);
        }
    }

    private int finding(int code) {
        findings++;
        return code;
    }

    private static boolean isSide(int length) {
        return length >= 1 && length <= SIDE;
    }

    private static boolean isWay(int way) {
        return way >= 0 && way < WAYS;
    }

    private static boolean isColour(int colour) {
        return colour >= 0 && colour < COLOURS;
    }

    private static boolean isKind(int kind) {
        return kind >= 0 && kind < KINDS;
    }

    private static boolean isSheet(int s) {
        return s >= 0 && s < SHEETS;
    }

    private static boolean isBits(int bits) {
        return bits == 0 || bits == 8 || bits == 16 || bits == 32;
    }

    /** Whether a kind of THING may have this LEAN or COLOUR. */
    private static boolean isOfKind(int kind, int of) {
        if (kind == DOOR) {
            return isColour(of);
        }
        if (isMirrorKind(kind)) {
            return of == 0 || of == 1;
        }
        return of == 0;
    }

    private static boolean isMirrorKind(int kind) {
        return kind == MIRROR || kind == HALF || kind == TABLE;
    }

    /** Whether a kind is another one or under it. */
    private static boolean isUnder(int kind, int above) {
        int k = kind;
        for (int i = 0; i < KINDS && isKind(k); i++) {
            if (k == above) {
                return true;
            }
            k = KIND_ABOVE[k];
        }
        return false;
    }

    /** What acts change and undo brings back: THE FLOOR, its THINGS and LAMPS. */
    private static final class Maze {
        int wide;
        int deep;
        final int[] kinds;
        /** LEAN or COLOUR. */
        final int[] ofs;
        final int[] opens;
        int lampCount;
        final int[] lampFields;
        final int[] lampWays;
        final int[] lampColours;

        Maze() {
            wide = SIDE;
            deep = SIDE;
            kinds = new int[FIELDS];
            Arrays.fill(kinds, FREE);
            ofs = new int[FIELDS];
            opens = new int[FIELDS];
            lampCount = 0;
            lampFields = new int[MOST_LAMPS];
            lampWays = new int[MOST_LAMPS];
            lampColours = new int[MOST_LAMPS];
        }

        void become(Maze other) {
            wide = other.wide;
            deep = other.deep;
            System.arraycopy(other.kinds, 0, kinds, 0, FIELDS);
            System.arraycopy(other.ofs, 0, ofs, 0, FIELDS);
            System.arraycopy(other.opens, 0, opens, 0, FIELDS);
            lampCount = other.lampCount;
            System.arraycopy(other.lampFields, 0, lampFields, 0, MOST_LAMPS);
            System.arraycopy(other.lampWays, 0, lampWays, 0, MOST_LAMPS);
            System.arraycopy(other.lampColours, 0, lampColours, 0, MOST_LAMPS);
        }

        boolean hasField(int field) {
            return field >= 0 && field < FIELDS && field % SIDE < wide && field / SIDE < deep;
        }

        boolean hasLamp(int lamp) {
            return lamp >= 0 && lamp < lampCount;
        }

        /** The FIELD beside one, or -1 out of THE FLOOR. */
        int nextField(int field, int way) {
            int x = field % SIDE + X_OF_WAY[way];
            int y = field / SIDE + Y_OF_WAY[way];
            if (x < 0 || x >= wide || y < 0 || y >= deep) {
                return -1;
            }
            return SIDE * y + x;
        }

        boolean stopsRays(int field) {
            return kinds[field] == WALL || kinds[field] == DOOR && opens[field] == 0;
        }

        boolean isWalkable(int field) {
            return kinds[field] == FREE || kinds[field] == DOOR && opens[field] == 1;
        }

        boolean isVacant(int field) {
            return kinds[field] == FREE && lampAt(field) < 0;
        }

        /** The WAY of a RAY that has come to a FIELD with a WAY; a HALF is as a MIRROR. */
        int wayOut(int field, int way) {
            if (!isMirrorKind(kinds[field])) {
                return way;
            }
            return ofs[field] == 0 ? 3 - way : way ^ 1;
        }

        int lampAt(int field) {
            for (int i = 0; i < lampCount; i++) {
                if (lampFields[i] == field) {
                    return i;
                }
            }
            return -1;
        }

        int countThings() {
            return FIELDS - countKind(FREE);
        }

        int countKind(int kind) {
            int n = 0;
            for (int field = 0; field < FIELDS; field++) {
                if (kinds[field] == kind) {
                    n++;
                }
            }
            return n;
        }

        int countOpen() {
            int n = 0;
            for (int field = 0; field < FIELDS; field++) {
                n += opens[field];
            }
            return n;
        }

        void place(int field, int kind, int of) {
            kinds[field] = kind;
            ofs[field] = of;
            opens[field] = 0;
        }

        void leanOver(int field) {
            ofs[field] = 1 - ofs[field];
        }

        void addLamp(int field, int way, int colour) {
            if (lampCount < MOST_LAMPS) {
                lampFields[lampCount] = field;
                lampWays[lampCount] = way;
                lampColours[lampCount] = colour;
                lampCount++;
            }
        }

        void resize(int newWide, int newDeep) {
            wide = newWide;
            deep = newDeep;
            for (int field = 0; field < FIELDS; field++) {
                if (!hasField(field)) {
                    place(field, FREE, 0);
                }
            }
            int old = lampCount;
            lampCount = 0;
            for (int i = 0; i < old; i++) {
                if (hasField(lampFields[i])) {
                    addLamp(lampFields[i], lampWays[i], lampColours[i]);
                }
            }
        }

        /** Writes the FIELDS of all TABLES, rising, and answers how many they are. */
        int listTables(int[] tables) {
            int n = 0;
            for (int field = 0; field < FIELDS; field++) {
                if (kinds[field] == TABLE && n < tables.length) {
                    tables[n] = field;
                    n++;
                }
            }
            return n;
        }

        void turnTables(int set) {
            int number = 0;
            for (int field = 0; field < FIELDS; field++) {
                if (kinds[field] == TABLE) {
                    if ((set >>> number & 1) == 1) {
                        leanOver(field);
                    }
                    number++;
                }
            }
        }

        /** A FIELD becomes what a sheet's number tells; false if it is left as it is. */
        boolean tell(int field, int number) {
            if (number < 0 || number > 8 || lampAt(field) >= 0) {
                return false;
            }
            if (number == 0) {
                place(field, FREE, 0);
            } else if (number == 1) {
                place(field, WALL, 0);
            } else if (number <= 3) {
                place(field, MIRROR, number - 2);
            } else if (number <= 5) {
                place(field, HALF, number - 4);
            } else {
                place(field, DOOR, number - 6);
            }
            return true;
        }
    }

    /** The latest mazes, each as it was ahead of an act; the oldest gives way. */
    private static final class Past {
        final Maze[] mazes;
        int oldest;
        int count;

        Past() {
            mazes = new Maze[MOST_UNDONE];
            for (int i = 0; i < MOST_UNDONE; i++) {
                mazes[i] = new Maze();
            }
            oldest = 0;
            count = 0;
        }

        void keep(Maze maze) {
            mazes[(oldest + count) % MOST_UNDONE].become(maze);
            if (count < MOST_UNDONE) {
                count++;
            } else {
                oldest = (oldest + 1) % MOST_UNDONE;
            }
        }

        void restore(Maze maze) {
            if (count > 0) {
                count--;
                maze.become(mazes[(oldest + count) % MOST_UNDONE]);
            }
        }
    }

    /** THE PATH of a RAY, HALVES as MIRRORS. */
    private static final class Path {
        final int[] places;
        int length;
        boolean isClosed;

        Path() {
            places = new int[PLACES];
            length = 0;
            isClosed = false;
        }

        /** No two places go on to the same one, so a PATH can only close at its first place. */
        void follow(Maze maze, int field, int way) {
            int start = WAYS * field + way;
            int place = start;
            isClosed = false;
            length = 0;
            for (int i = 0; i < PLACES && place >= 0 && !isClosed; i++) {
                places[i] = place;
                length++;
                place = placeBehind(maze, place);
                isClosed = place == start;
            }
        }

        /** The place to which a RAY goes, or -1 if it ENDS. */
        private static int placeBehind(Maze maze, int place) {
            int way = place % WAYS;
            int next = maze.nextField(place / WAYS, way);
            if (next < 0 || maze.stopsRays(next)) {
                return -1;
            }
            return WAYS * next + maze.wayOut(next, way);
        }
    }

    /** THE SPREAD of a RAY. Marks of earlier spreads differ, so that none must be wiped. */
    private static final class Spread {
        final int[] places;
        int count;
        private final int[] placeMarks;
        /** FIELDS to which the RAY or its parts come, apart from where it begins. */
        private final int[] comeMarks;
        /** WALLS and DOORS at which the RAY or its parts END. */
        private final int[] endMarks;
        private int mark;
        private int start;
        private final int[] seers;

        Spread() {
            places = new int[PLACES];
            count = 0;
            placeMarks = new int[PLACES];
            comeMarks = new int[FIELDS];
            endMarks = new int[FIELDS];
            mark = 0;
            start = 0;
            seers = new int[FIELDS];
        }

        void goFrom(Maze maze, int field, int way) {
            mark++;
            count = 0;
            start = field;
            add(field, way);
            for (int i = 0; i < count && i < PLACES; i++) {
                goOn(maze, places[i] / WAYS, places[i] % WAYS);
            }
        }

        private void goOn(Maze maze, int field, int way) {
            int next = maze.nextField(field, way);
            if (next < 0) {
                return;
            }
            if (maze.stopsRays(next)) {
                endMarks[next] = mark;
                return;
            }
            comeMarks[next] = mark;
            add(next, maze.wayOut(next, way));
            if (maze.kinds[next] == HALF) {
                add(next, way);
            }
        }

        private void add(int field, int way) {
            int place = WAYS * field + way;
            if (placeMarks[place] != mark && count < PLACES) {
                placeMarks[place] = mark;
                places[count] = place;
                count++;
            }
        }

        boolean comesTo(int field) {
            return comeMarks[field] == mark;
        }

        boolean endsAt(int field) {
            return endMarks[field] == mark;
        }

        boolean holds(int field) {
            return field == start || comesTo(field);
        }

        int countFields() {
            int n = 0;
            for (int field = 0; field < FIELDS; field++) {
                if (holds(field)) {
                    n++;
                }
            }
            return n;
        }

        /**
         * How many FIELDS SEE one. RAYS go back as they came, so these are the FIELDS to which the
         * RAYS from this one come, and those at which they END: WALLS and DOORS SEE, but aren't seen.
         */
        int countSeers(Maze maze, int field) {
            if (maze.stopsRays(field)) {
                return 0;
            }
            Arrays.fill(seers, 0);
            for (int way = 0; way < WAYS; way++) {
                goFrom(maze, field, way);
                for (int other = 0; other < FIELDS; other++) {
                    if (comesTo(other) || endsAt(other)) {
                        seers[other] = 1;
                    }
                }
            }
            int n = 0;
            for (int other = 0; other < FIELDS; other++) {
                n += seers[other];
            }
            return n;
        }
    }

    /** CLOSED RAYS, in the order of their least places. */
    private static final class Rings {
        final int[] leasts;
        final int[] sizes;
        int count;
        private final int[] done;
        private final Path route;

        Rings() {
            leasts = new int[PLACES];
            sizes = new int[PLACES];
            count = 0;
            done = new int[PLACES];
            route = new Path();
        }

        void find(Maze maze) {
            Arrays.fill(done, 0);
            count = 0;
            for (int place = 0; place < PLACES; place++) {
                if (done[place] == 0 && maze.hasField(place / WAYS)) {
                    followFrom(maze, place);
                }
            }
        }

        private void followFrom(Maze maze, int place) {
            route.follow(maze, place / WAYS, place % WAYS);
            for (int i = 0; i < route.length; i++) {
                done[route.places[i]] = 1;
            }
            if (route.isClosed && count < PLACES) {
                leasts[count] = place;
                sizes[count] = route.length;
                count++;
            }
        }
    }

    /** What is LIT by which COLOURS, and the ROUNDS in which DOORS open. */
    private static final class Light {
        final int[] colours;
        int roundCount;
        int openedCount;
        private final Spread rays;

        Light() {
            colours = new int[FIELDS];
            roundCount = 0;
            openedCount = 0;
            rays = new Spread();
        }

        void shine(Maze maze) {
            Arrays.fill(colours, 0);
            for (int i = 0; i < maze.lampCount; i++) {
                rays.goFrom(maze, maze.lampFields[i], maze.lampWays[i]);
                for (int field = 0; field < FIELDS; field++) {
                    if (rays.holds(field) || maze.kinds[field] == DOOR && rays.endsAt(field)) {
                        colours[field] |= 1 << maze.lampColours[i];
                    }
                }
            }
        }

        int countLit(int colour) {
            int n = 0;
            for (int field = 0; field < FIELDS; field++) {
                n += colours[field] >>> colour & 1;
            }
            return n;
        }

        /** Each ROUND but the last opens a DOOR, so there are no more than FIELDS and one. */
        void doRounds(Maze maze) {
            roundCount = 0;
            openedCount = 0;
            for (int i = 0; i <= FIELDS; i++) {
                shine(maze);
                int n = openLit(maze);
                if (n == 0) {
                    break;
                }
                roundCount++;
                openedCount += n;
            }
        }

        private int openLit(Maze maze) {
            int n = 0;
            for (int field = 0; field < FIELDS; field++) {
                if (maze.kinds[field] == DOOR && maze.opens[field] == 0
                        && (colours[field] >>> maze.ofs[field] & 1) == 1) {
                    maze.opens[field] = 1;
                    n++;
                }
            }
            return n;
        }
    }

    /**
     * FEWEST TURNS. A TABLE is a WALL till a RAY comes to it; only then both of its LEANS are tried,
     * so that TABLES to which no RAY comes cost nothing.
     */
    private static final class Turning {
        private final Maze trial;
        private final Spread rays;
        private final int[] tables;
        private int tableCount;
        private int lampNumber;
        private int target;
        private int best;

        Turning() {
            trial = new Maze();
            rays = new Spread();
            tables = new int[MOST_TABLES];
            tableCount = 0;
            lampNumber = 0;
            target = 0;
            best = -1;
        }

        /** The set, or -1 if there is none. */
        int findFewest(Maze maze, int lamp, int field) {
            trial.become(maze);
            tableCount = trial.listTables(tables);
            for (int i = 0; i < tableCount; i++) {
                trial.kinds[tables[i]] = WALL;
            }
            lampNumber = lamp;
            target = field;
            best = -1;
            tryTurned(0, 0);
            return best;
        }

        private void tryTurned(int set, int depth) {
            if (depth > MOST_TABLES || !isBetter(set)) {
                return;
            }
            rays.goFrom(trial, trial.lampFields[lampNumber], trial.lampWays[lampNumber]);
            if (rays.holds(target)) {
                best = set;
                return;
            }
            int number = findMetTable();
            if (number >= 0) {
                tryBothLeans(number, set, depth + 1);
            }
        }

        private void tryBothLeans(int number, int set, int depth) {
            int field = tables[number];
            trial.kinds[field] = TABLE;
            tryTurned(set, depth);
            trial.leanOver(field);
            tryTurned(set | 1 << number, depth);
            trial.leanOver(field);
            trial.kinds[field] = WALL;
        }

        /** A set that isn't better can't become so by more TABLES. */
        private boolean isBetter(int set) {
            int more = Integer.bitCount(set) - Integer.bitCount(best);
            return best < 0 || more < 0 || more == 0 && set < best;
        }

        private int findMetTable() {
            for (int i = 0; i < tableCount; i++) {
                if (trial.kinds[tables[i]] == WALL && rays.endsAt(tables[i])) {
                    return i;
                }
            }
            return -1;
        }
    }

    /** How FAR all FIELDS are from one, by WALKS. */
    private static final class Walks {
        /** -1: there is no WALK. */
        final int[] fars;
        int count;
        private final int[] queue;

        Walks() {
            fars = new int[FIELDS];
            count = 0;
            queue = new int[FIELDS];
        }

        void measure(Maze maze, int from) {
            Arrays.fill(fars, -1);
            count = 0;
            add(maze, from, 0);
            for (int i = 0; i < count && i < FIELDS; i++) {
                for (int way = 0; way < WAYS; way++) {
                    add(maze, maze.nextField(queue[i], way), fars[queue[i]] + 1);
                }
            }
        }

        private void add(Maze maze, int field, int steps) {
            if (field >= 0 && fars[field] < 0 && maze.isWalkable(field) && count < FIELDS) {
                fars[field] = steps;
                queue[count] = field;
                count++;
            }
        }

        /** The least WAY to a FIELD that is a step nearer, or -1. */
        int wayNearer(Maze maze, int field) {
            if (fars[field] <= 0) {
                return -1;
            }
            for (int way = 0; way < WAYS; way++) {
                int next = maze.nextField(field, way);
                if (next >= 0 && fars[next] == fars[field] - 1) {
                    return way;
                }
            }
            return -1;
        }
    }

    /** A VISITOR, led by what it SEES, else by a shortest WALK. */
    private static final class Visitor {
        private final Walks walks;
        private final Spread rays;
        private final int[] been;

        Visitor() {
            walks = new Walks();
            rays = new Spread();
            been = new int[FIELDS];
        }

        /** STEPS, or -1 if the VISITOR doesn't come there. */
        int countSteps(Maze maze, int from, int to) {
            walks.measure(maze, to);
            if (walks.fars[from] < 0) {
                return -1;
            }
            Arrays.fill(been, 0);
            int field = from;
            for (int steps = 0; steps < FIELDS; steps++) {
                if (field == to) {
                    return steps;
                }
                if (field < 0 || been[field] == 1) {
                    return -1;
                }
                been[field] = 1;
                field = goOn(maze, field, to);
            }
            return -1;
        }

        private int goOn(Maze maze, int field, int to) {
            for (int way = 0; way < WAYS; way++) {
                int next = maze.nextField(field, way);
                if (next >= 0 && maze.isWalkable(next)) {
                    rays.goFrom(maze, field, way);
                    if (rays.comesTo(to)) {
                        return next;
                    }
                }
            }
            int way = walks.wayNearer(maze, field);
            return way < 0 ? -1 : maze.nextField(field, way);
        }
    }

    /** SHEETS, one behind the other in one row of numbers. */
    private static final class Sheets {
        /** 0: the sheet is MISSING. */
        final int[] bits;
        final int[] lengths;
        private final int[] numbers;

        Sheets() {
            bits = new int[SHEETS];
            lengths = new int[SHEETS];
            numbers = new int[SHEETS * SHEET_LENGTH];
        }

        boolean isMissing(int s) {
            return bits[s] == 0;
        }

        void make(int s, int newBits, int length) {
            bits[s] = newBits;
            lengths[s] = length;
            for (int i = 0; i < SHEET_LENGTH; i++) {
                numbers[s * SHEET_LENGTH + i] = 0;
            }
        }

        int read(int s, int i) {
            return numbers[s * SHEET_LENGTH + i];
        }

        void write(int s, int i, int v) {
            int lowest = bits[s] == 8 ? v & 0xFF : bits[s] == 16 ? v & 0xFFFF : v;
            numbers[s * SHEET_LENGTH + i] = lowest;
        }

        /** from is taken off the length, for their sum with n could wrap around. */
        boolean hasPart(int s, int from, int n) {
            return from >= 0 && n >= 0 && from <= lengths[s] && n <= lengths[s] - from;
        }

        void transfer(int s, int from, int t, int to, int n) {
            System.arraycopy(numbers, s * SHEET_LENGTH + from, numbers, t * SHEET_LENGTH + to, n);
        }
    }
}
