/**
 * A floor that a robot sweeps, as ../shared/DOC.md tells it.
 *
 * Sets of cells are longs, bit n standing for cell n: the floor has at most 36 cells, and no set
 * can be used beyond its end, as a row could.
 */
public final class SweptFloors {
    public static final int BAD = -1, STATE = -2, FULL = -3, NONE = -9;

    private static final int MOST_SIDE = 6;
    private static final int MOST_CELLS = MOST_SIDE * MOST_SIDE;
    private static final int MOST_LETTERS = 60;
    private static final int MOST_UNDONE = 6;
    private static final int MOST_BRIM = 99;
    private static final int MOST_RATE = 20;
    private static final int MOST_ACTIONS_TOLD = 60;
    private static final int MOST_ACTIONS_FORESEEN = 400;
    private static final int IMAGES = 2;

    private static final int FIRST_BRIM = 40;
    private static final int FIRST_RATE = 5;

    private static final int PLAIN = 0, WALL = 1, CLIFF = 2, BARRED = 3;
    private static final int OPEN_DOOR = 4, SHUT_DOOR = 5, DOCK = 6;

    private static final int HANDS = 4;
    private static final int UP = 0, RIGHT = 1, DOWN = 2;

    private static final int WENT = 0, BUMPED = 1, STOPPED = 2, TURNED_BACK = 3;

    private static final int SEEN_FREE = 0, SEEN_NOT_FREE = 1, SEEN_BARRED = 2;

    private static final int KNOWS_NOTHING = 0, KNOWS_FREE = 1, KNOWS_NOT_FREE = 2;

    private static final int DID_NOTHING = 0, LOADED = 1, STEPPED = 2;

    private static final int NO_CELL = -1;
    private static final int NO_FAULT = -1;
    private static final int NO_HAND = -1;

    private final Text text = new Text();
    private final Ground ground = new Ground();
    private final Situation now = new Situation(ground);
    private final Situation foreseen = new Situation(ground);
    private final Pilot pilot = new Pilot();
    private final History history = new History(ground);
    private final Album album = new Album(ground);

    public SweptFloors() {
        text.add('D');
        text.add(';');
        readText();
    }

    // ---- the floor

    public int type(int letter) {
        if (letter < 0 || letter > 255) {
            return BAD;
        }
        return text.add(letter) ? text.length : FULL;
    }

    public int clear() {
        int had = text.length;
        text.length = 0;
        return had;
    }

    public int floor() {
        int fault = readText();
        return fault == NO_FAULT ? ground.size() : -10 - fault;
    }

    public int cell(int cell) {
        return ground.has(cell) ? now.kindOf(cell) : BAD;
    }

    // ---- what is done

    public int powers(int brim, int rate) {
        if (brim < 1 || brim > MOST_BRIM || rate < 1 || rate > MOST_RATE) {
            return BAD;
        }
        if (brim == now.brim && rate == now.rate) {
            return STATE;
        }
        history.remember(now);
        now.brim = brim;
        now.rate = rate;
        now.charge = Math.min(now.charge, brim);
        return now.charge;
    }

    public int moves(int cell) {
        if (!ground.has(cell) || !holds(ground.doors, cell)) {
            return BAD;
        }
        if (cell == now.cell) {
            return STATE;
        }
        history.remember(now);
        now.shut ^= only(cell);
        return holds(now.shut, cell) ? 0 : 1;
    }

    public int steps() {
        if (now.charge <= 0) {
            return STATE;
        }
        history.remember(now);
        return now.stepTo(now.heading);
    }

    public int rotates(int q) {
        if (q < 1 || q >= HANDS) {
            return BAD;
        }
        history.remember(now);
        now.turn(q);
        return now.heading;
    }

    public int scans() {
        history.remember(now);
        return now.scanAround();
    }

    public int carries(int cell, int heading) {
        if (!ground.has(cell) || !holds(now.freeCells(), cell) || heading < 0 || heading >= HANDS) {
            return BAD;
        }
        history.remember(now);
        return now.carryTo(cell, heading);
    }

    public int goes(int n) {
        if (n < 1 || n > MOST_ACTIONS_TOLD) {
            return BAD;
        }
        if (now.lost) {
            return STATE;
        }
        history.remember(now);
        int stepped = 0;
        for (int i = 0; i < n; i++) {
            int did = pilot.act(now);
            if (did == STEPPED) {
                stepped++;
            }
            if (did == DID_NOTHING) {
                // nothing changed, so nothing would come of the actions left either
                break;
            }
        }
        return stepped;
    }

    public int undo() {
        return history.bringBack(now) ? history.size : STATE;
    }

    // ---- the robot

    public int robot(int what) {
        switch (what) {
            case 0:
                return now.cell;
            case 1:
                return now.heading;
            case 2:
                return now.charge;
            case 3:
                return now.lost ? 1 : 0;
            case 4:
                return Long.bitCount(now.knownFree);
            case 5:
                return Long.bitCount(now.knownNotFree);
            default:
                return BAD;
        }
    }

    public int knows(int cell) {
        return ground.has(cell) ? now.knowledgeOf(cell) : BAD;
    }

    public int home(int cell) {
        return ground.has(cell) ? now.homeOf(cell) : BAD;
    }

    public int target(int what) {
        if (what < 0 || what > 3) {
            return BAD;
        }
        if (now.lost || !pilot.findsTarget(now)) {
            return NONE;
        }
        switch (what) {
            case 0:
                return pilot.target;
            case 1:
                return pilot.way;
            case 2:
                return pilot.wayBack;
            default:
                return pilot.gate;
        }
    }

    public int place(int k) {
        if (k < -1) {
            return BAD;
        }
        return k == -1 ? now.placeCount() : now.placeAt(k);
    }

    // ---- the floor as it is

    public int lane(int k, int what) {
        if (k < -1 || what < 0 || what > 1) {
            return BAD;
        }
        long free = now.freeCells();
        long starts = free & ~ground.beside(free, RIGHT);
        if (k == -1) {
            return Long.bitCount(starts);
        }
        int start = memberAt(starts, k);
        if (start == NO_CELL) {
            return NONE;
        }
        return what == 0 ? start : laneLength(start, free);
    }

    public int room(int cell) {
        if (cell != -1 && !ground.has(cell)) {
            return BAD;
        }
        long left = ground.plain | only(ground.dock);
        int rooms = 0;
        for (int lowest = 0; lowest < MOST_CELLS; lowest++) {
            if (holds(left, lowest)) {
                long room = ground.within(MOST_CELLS, lowest, left);
                if (holds(room, cell)) {
                    return rooms;
                }
                left &= ~room;
                rooms++;
            }
        }
        return cell == -1 ? rooms : NONE;
    }

    public int reach(int what) {
        if (what < 0 || what > 1) {
            return BAD;
        }
        long free = now.freeCells();
        if (what == 0) {
            return Long.bitCount(ground.within(MOST_CELLS, ground.dock, free));
        }
        return 2 * ground.mostSteps(ground.dock, free);
    }

    public int when() {
        if (now.lost) {
            return NONE;
        }
        foreseen.copyFrom(now);
        for (int actions = 0; actions <= MOST_ACTIONS_FORESEEN; actions++) {
            if (pilot.isThrough(foreseen)) {
                return actions;
            }
            if (pilot.act(foreseen) == DID_NOTHING) {
                // nothing changed, so it stays as it is for good
                return NONE;
            }
        }
        return NONE;
    }

    // ---- images

    public int keep(int image) {
        if (image < 0 || image >= IMAGES) {
            return BAD;
        }
        album.putIn(image, now);
        return now.cell;
    }

    public int back(int image) {
        if (image < 0 || image >= IMAGES) {
            return BAD;
        }
        if (!album.takeOut(image, now)) {
            return STATE;
        }
        history.size = 0;
        return now.cell;
    }

    public int count(int what) {
        switch (what) {
            case 0:
                return ground.width;
            case 1:
                return ground.height;
            case 2:
                return ground.dock;
            case 3:
                return now.brim;
            case 4:
                return now.rate;
            case 5:
                return text.length;
            case 6:
                return history.size;
            default:
                return BAD;
        }
    }

    /** Makes the floor that the text tells; answers the fault, if there is one, and changes nothing then. */
    private int readText() {
        int fault = text.findFault();
        if (fault != NO_FAULT) {
            return fault;
        }
        ground.layOut(text);
        now.begin();
        history.size = 0;
        album.empty();
        text.length = 0;
        return NO_FAULT;
    }

    private int laneLength(int start, long free) {
        int length = 0;
        long end = only(start) & free;
        for (int i = 0; i < MOST_SIDE && end != 0; i++) {
            length++;
            end = ground.beside(end, RIGHT) & free;
        }
        return length;
    }

    // ---- sets of cells

    /** The set of just this cell; the empty one for what can't be a cell. */
    private static long only(int cell) {
        return cell >= 0 && cell < MOST_CELLS ? 1L << cell : 0L;
    }

    private static boolean holds(long cells, int cell) {
        return (cells & only(cell)) != 0;
    }

    private static int lowestOf(long cells) {
        return cells == 0 ? NO_CELL : Long.bitCount((cells & -cells) - 1);
    }

    /** The k-th (0 on) of the cells, lower ones first. */
    private static int memberAt(long cells, int k) {
        if (k < 0 || k >= Long.bitCount(cells)) {
            return NO_CELL;
        }
        long left = cells;
        for (int i = 0; i < k && i < MOST_CELLS; i++) {
            left &= left - 1;
        }
        return lowestOf(left);
    }

    /** The hand that a turn by quarters to the right makes of a hand. */
    private static int turned(int hand, int quarters) {
        return (hand + quarters) & 3;
    }

    /** The text, and what was read of it. */
    private static final class Text {
        private final int[] letters = new int[MOST_LETTERS];
        private int length;

        private final int[] kinds = new int[MOST_CELLS];
        private int cells;
        private int width;
        private int height;
        private int signsInRow;
        private int dock;

        private boolean add(int letter) {
            if (length < 0 || length >= MOST_LETTERS) {
                return false;
            }
            letters[length] = letter;
            length++;
            return true;
        }

        private int findFault() {
            cells = 0;
            width = 0;
            height = 0;
            signsInRow = 0;
            dock = NO_CELL;
            for (int i = 0; i < length && i < MOST_LETTERS; i++) {
                if (letters[i] != ' ' && !takes(letters[i])) {
                    return i;
                }
            }
            boolean whole = signsInRow == 0 && height > 0 && dock != NO_CELL;
            return whole ? NO_FAULT : length;
        }

        private boolean takes(int letter) {
            return letter == ';' ? endsRow() : takesSign(kindOfSign(letter));
        }

        private boolean endsRow() {
            // in the first row the width is 0 still
            if (signsInRow == 0 || signsInRow < width) {
                return false;
            }
            width = signsInRow;
            height++;
            signsInRow = 0;
            return true;
        }

        private boolean takesSign(int kind) {
            int mostSigns = height == 0 ? MOST_SIDE : width;
            if (kind == NONE || height >= MOST_SIDE || signsInRow >= mostSigns || cells >= MOST_CELLS) {
                return false;
            }
            if (kind == DOCK && dock != NO_CELL) {
                return false;
            }
            if (kind == DOCK) {
                dock = cells;
            }
            kinds[cells] = kind;
            cells++;
            signsInRow++;
            return true;
        }

        private static int kindOfSign(int letter) {
            switch (letter) {
                case '.':
                    return PLAIN;
                case '#':
                    return WALL;
                case '!':
                    return CLIFF;
                case 'n':
                    return BARRED;
                case 'd':
                    return OPEN_DOOR;
                case 'D':
                    return DOCK;
                default:
                    return NONE;
            }
        }
    }

    /** What of the floor stays until another is read, and the steps over it. */
    private static final class Ground {
        private int width;
        private int height;
        private int dock;
        private long all;
        private long plain;
        private long cliffs;
        private long barred;
        private long doors;
        private long leftmost;
        private long rightmost;

        private void layOut(Text read) {
            width = read.width;
            height = read.height;
            dock = read.dock;
            all = (1L << size()) - 1;
            plain = cellsOfKind(read, PLAIN);
            cliffs = cellsOfKind(read, CLIFF);
            barred = cellsOfKind(read, BARRED);
            doors = cellsOfKind(read, OPEN_DOOR);
            leftmost = 0;
            for (int row = 0; row < height; row++) {
                leftmost |= only(row * width);
            }
            rightmost = leftmost << (width - 1);
        }

        private static long cellsOfKind(Text read, int kind) {
            long found = 0;
            for (int i = 0; i < read.cells && i < MOST_CELLS; i++) {
                if (read.kinds[i] == kind) {
                    found |= only(i);
                }
            }
            return found;
        }

        private int size() {
            return width * height;
        }

        private boolean has(int cell) {
            return cell >= 0 && cell < size();
        }

        /** The cells that lie on that hand of these. */
        private long beside(long cells, int hand) {
            switch (hand) {
                case UP:
                    return cells >>> width;
                case RIGHT:
                    return (cells & ~rightmost) << 1;
                case DOWN:
                    return (cells << width) & all;
                default:
                    return (cells & ~leftmost) >>> 1;
            }
        }

        private int cellBeside(int cell, int hand) {
            return lowestOf(beside(only(cell), hand));
        }

        /** The cells on any hand of these. */
        private long around(long cells) {
            return (cells >>> width)
                | ((cells << width) & all)
                | ((cells & ~rightmost) << 1)
                | ((cells & ~leftmost) >>> 1);
        }

        /** The cells of a set to which it is so many steps at most, over cells of it alone. */
        private long within(int steps, int from, long among) {
            long reached = steps < 0 ? 0 : only(from) & among;
            for (int i = 0; i < steps && i < MOST_CELLS; i++) {
                long next = reached | (around(reached) & among);
                if (next == reached) {
                    break;
                }
                reached = next;
            }
            return reached;
        }

        /** The fewest steps over cells of a set alone, both ends too; NONE. */
        private int stepsBetween(int from, int to, long among) {
            long goal = only(to);
            long reached = only(from) & among;
            for (int steps = 0; steps < MOST_CELLS; steps++) {
                if ((reached & goal) != 0) {
                    return steps;
                }
                long next = reached | (around(reached) & among);
                if (next == reached) {
                    return NONE;
                }
                reached = next;
            }
            return NONE;
        }

        /** How many steps it is to the cell of a set that is farthest over cells of it. */
        private int mostSteps(int from, long among) {
            long reached = only(from) & among;
            for (int steps = 0; steps < MOST_CELLS; steps++) {
                long next = reached | (around(reached) & among);
                if (next == reached) {
                    return steps;
                }
                reached = next;
            }
            return MOST_CELLS - 1;
        }
    }

    /** All that can change and be undone: the doors, the powers, the robot. */
    private static final class Situation {
        private final Ground ground;
        private long shut;
        private int brim;
        private int rate;
        private int cell;
        private int heading;
        private int charge;
        private long knownFree;
        private long knownNotFree;
        private boolean lost;
        /** For each heading the cells where it may be with it, while it is lost. */
        private final long[] places = new long[HANDS];

        private Situation(Ground ground) {
            this.ground = ground;
        }

        private void begin() {
            shut = 0;
            brim = FIRST_BRIM;
            rate = FIRST_RATE;
            cell = ground.dock;
            heading = UP;
            charge = FIRST_BRIM;
            knownFree = only(ground.dock);
            knownNotFree = 0;
            lost = false;
        }

        private void copyFrom(Situation other) {
            shut = other.shut;
            brim = other.brim;
            rate = other.rate;
            cell = other.cell;
            heading = other.heading;
            charge = other.charge;
            knownFree = other.knownFree;
            knownNotFree = other.knownNotFree;
            lost = other.lost;
            System.arraycopy(other.places, 0, places, 0, HANDS);
        }

        private long freeCells() {
            return (ground.plain | only(ground.dock) | ground.doors) & ~shut;
        }

        private int kindOf(int cell) {
            if (cell == ground.dock) {
                return DOCK;
            }
            if (holds(ground.plain, cell)) {
                return PLAIN;
            }
            if (holds(ground.doors, cell)) {
                return holds(shut, cell) ? SHUT_DOOR : OPEN_DOOR;
            }
            if (holds(ground.barred, cell)) {
                return BARRED;
            }
            return holds(ground.cliffs, cell) ? CLIFF : WALL;
        }

        private int knowledgeOf(int cell) {
            if (holds(knownFree, cell)) {
                return KNOWS_FREE;
            }
            return holds(knownNotFree, cell) ? KNOWS_NOT_FREE : KNOWS_NOTHING;
        }

        private int homeOf(int cell) {
            return ground.stepsBetween(cell, ground.dock, knownFree);
        }

        // ---- steps, turns, scans

        private int stepTo(int hand) {
            heading = hand;
            charge--;
            int ahead = ground.cellBeside(cell, hand);
            int outcome = outcomeAt(ahead);
            if (lost) {
                sortOutBy(outcome);
            } else {
                learn(ahead, outcome);
            }
            if (outcome == WENT) {
                cell = ahead;
            }
            return outcome;
        }

        private int outcomeAt(int ahead) {
            if (holds(freeCells(), ahead)) {
                return WENT;
            }
            if (holds(ground.cliffs, ahead)) {
                return STOPPED;
            }
            return holds(ground.barred, ahead) ? TURNED_BACK : BUMPED;
        }

        private void learn(int ahead, int outcome) {
            if (outcome == WENT) {
                knownFree |= only(ahead);
                knownNotFree &= ~only(ahead);
            } else if (outcome != TURNED_BACK) {
                knownNotFree |= only(ahead);
                knownFree &= ~only(ahead);
            }
        }

        private void turn(int quarters) {
            heading = turned(heading, quarters);
            if (lost) {
                for (int i = 0; i < quarters && i < HANDS; i++) {
                    turnPlaces();
                }
                beFoundIfSure();
            }
        }

        private int scanAround() {
            int told = 0;
            for (int quarters = 0; quarters < HANDS; quarters++) {
                int seen = seenAt(ground.cellBeside(cell, turned(heading, quarters)));
                told = told * 3 + seen;
                if (lost) {
                    keepPlacesThatSee(seen, quarters);
                }
            }
            if (lost) {
                beFoundIfSure();
            }
            return told;
        }

        private int seenAt(int cell) {
            if (holds(freeCells(), cell)) {
                return SEEN_FREE;
            }
            return holds(ground.barred, cell) ? SEEN_BARRED : SEEN_NOT_FREE;
        }

        // ---- where it may be while it is lost

        private int carryTo(int to, int newHeading) {
            cell = to;
            heading = newHeading;
            lost = true;
            for (int h = 0; h < HANDS; h++) {
                places[h] = cellsThatMayShow(SEEN_FREE);
            }
            int count = placeCount();
            beFoundIfSure();
            return count;
        }

        private void sortOutBy(int outcome) {
            if (outcome == WENT) {
                keepPlacesThatSee(SEEN_FREE, 0);
                movePlacesAhead();
            } else {
                keepPlacesThatSee(outcome == TURNED_BACK ? SEEN_BARRED : SEEN_NOT_FREE, 0);
            }
            beFoundIfSure();
        }

        private void keepPlacesThatSee(int seen, int quarters) {
            for (int h = 0; h < HANDS; h++) {
                places[h] &= cellsThatMaySee(seen, turned(h, quarters));
            }
        }

        private void movePlacesAhead() {
            for (int h = 0; h < HANDS; h++) {
                places[h] = ground.beside(places[h], h);
            }
        }

        private void turnPlaces() {
            long last = places[3];
            places[3] = places[2];
            places[2] = places[1];
            places[1] = places[0];
            places[0] = last;
        }

        private void beFoundIfSure() {
            if (placeCount() == 1) {
                lost = false;
            }
        }

        /** The cells on whose hand there can be what was seen. */
        private long cellsThatMaySee(int seen, int hand) {
            int opposite = turned(hand, 2);
            long found = ground.beside(cellsThatMayShow(seen), opposite);
            if (seen == SEEN_NOT_FREE) {
                found |= ground.all & ~ground.beside(ground.all, opposite);
            }
            return found;
        }

        /** The cells that can be what was seen, by what it knows; doors can have been moved since. */
        private long cellsThatMayShow(int seen) {
            if (seen == SEEN_BARRED) {
                return ground.barred;
            }
            long knownOtherwise = seen == SEEN_FREE ? knownNotFree : knownFree;
            return ground.all & ~ground.barred & ~(knownOtherwise & ~ground.doors);
        }

        private int placeCount() {
            if (!lost) {
                return 1;
            }
            int count = 0;
            for (int h = 0; h < HANDS; h++) {
                count += Long.bitCount(places[h]);
            }
            return count;
        }

        private int placeAt(int k) {
            if (!lost) {
                return k == 0 ? HANDS * cell + heading : NONE;
            }
            int before = 0;
            for (int place = 0; place < HANDS * MOST_CELLS; place++) {
                if (holds(places[place & 3], place >> 2)) {
                    if (before == k) {
                        return place;
                    }
                    before++;
                }
            }
            return NONE;
        }
    }

    /** What the robot does by itself; its fields tell of the target that was found last. */
    private static final class Pilot {
        private int target;
        private int gate;
        private int way;
        private int wayBack;

        private int act(Situation robot) {
            if (robot.cell == robot.ground.dock && robot.charge < robot.brim) {
                robot.charge = Math.min(robot.charge + robot.rate, robot.brim);
                return LOADED;
            }
            if (robot.charge <= 0) {
                return DID_NOTHING;
            }
            int hand = nextHand(robot);
            if (hand == NO_HAND) {
                return DID_NOTHING;
            }
            robot.stepTo(hand);
            return STEPPED;
        }

        private boolean isThrough(Situation robot) {
            return robot.cell == robot.ground.dock && robot.charge == robot.brim && !findsTarget(robot);
        }

        private int nextHand(Situation robot) {
            if (findsTarget(robot)) {
                return robot.cell == gate ? handOnto(robot, target) : handNearer(robot, gate);
            }
            return robot.cell == robot.ground.dock ? NO_HAND : handNearer(robot, robot.ground.dock);
        }

        private static int handOnto(Situation robot, int goal) {
            for (int hand = 0; hand < HANDS; hand++) {
                if (robot.ground.cellBeside(robot.cell, hand) == goal) {
                    return hand;
                }
            }
            return NO_HAND;
        }

        private static int handNearer(Situation robot, int goal) {
            int steps = robot.ground.stepsBetween(robot.cell, goal, robot.knownFree);
            if (steps == NONE) {
                return NO_HAND;
            }
            for (int hand = 0; hand < HANDS; hand++) {
                int next = robot.ground.cellBeside(robot.cell, hand);
                if (robot.ground.stepsBetween(next, goal, robot.knownFree) == steps - 1) {
                    return hand;
                }
            }
            return NO_HAND;
        }

        /** Looks at nearer gates first: the first target that can be is the one of the least way. */
        private boolean findsTarget(Situation robot) {
            Ground ground = robot.ground;
            long unknown = ground.all & ~ground.barred & ~robot.knownFree & ~robot.knownNotFree;
            long reached = only(robot.cell) & robot.knownFree;
            long farthest = reached;
            for (int steps = 0; steps < MOST_CELLS && farthest != 0; steps++) {
                // of the charge that is left in a target, the first step leads back to the gate
                int mostHome = robot.charge - (steps + 1) - 1;
                long gates = farthest & ground.within(mostHome, ground.dock, robot.knownFree);
                long targets = ground.around(gates) & unknown;
                if (targets != 0) {
                    target = lowestOf(targets);
                    gate = lowestOf(gates & ground.around(only(target)));
                    way = steps + 1;
                    wayBack = robot.homeOf(gate) + 1;
                    return true;
                }
                farthest = ground.around(reached) & robot.knownFree & ~reached;
                reached |= farthest;
            }
            return false;
        }
    }

    /** The situations ahead of the latest calls, in a ring: the oldest one makes place for a new one. */
    private static final class History {
        private final Situation[] past = new Situation[MOST_UNDONE];
        private int latest;
        private int size;

        private History(Ground ground) {
            for (int i = 0; i < MOST_UNDONE; i++) {
                past[i] = new Situation(ground);
            }
        }

        private Situation slotOf(int number) {
            return number >= 0 && number < MOST_UNDONE ? past[number] : null;
        }

        private void remember(Situation now) {
            latest = latest + 1 < MOST_UNDONE ? latest + 1 : 0;
            Situation slot = slotOf(latest);
            if (slot != null) {
                slot.copyFrom(now);
                size = Math.min(size + 1, MOST_UNDONE);
            }
        }

        private boolean bringBack(Situation now) {
            Situation slot = slotOf(latest);
            if (size <= 0 || slot == null) {
                return false;
            }
            now.copyFrom(slot);
            latest = latest > 0 ? latest - 1 : MOST_UNDONE - 1;
            size--;
            return true;
        }
    }

    /** The images. */
    private static final class Album {
        private final Situation[] pictures = new Situation[IMAGES];
        private final boolean[] kept = new boolean[IMAGES];

        private Album(Ground ground) {
            for (int i = 0; i < IMAGES; i++) {
                pictures[i] = new Situation(ground);
            }
        }

        private void empty() {
            for (int i = 0; i < IMAGES; i++) {
                kept[i] = false;
            }
        }

        private void putIn(int image, Situation now) {
            Situation picture = image >= 0 && image < IMAGES ? pictures[image] : null;
            if (picture != null) {
                picture.copyFrom(now);
                kept[image] = true;
            }
        }

        private boolean takeOut(int image, Situation now) {
            Situation picture = image >= 0 && image < IMAGES ? pictures[image] : null;
            if (picture == null || !kept[image]) {
                return false;
            }
            now.copyFrom(picture);
            return true;
        }
    }
}
