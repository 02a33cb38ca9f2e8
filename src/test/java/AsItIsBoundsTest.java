/** The boundaries of '4 (Nothing is changed.)' and of promises 19 to 22, a test for each sentence that names one. */
public final class AsItIsBoundsTest {
    private static final Checks checks = new Checks("AsItIsBoundsTest");
    private static final int NONE = Checks.NONE, BAD = Checks.BAD;
    private static final String CHECKERED = "D#.#.#;#.#.#.;.#.#.#;#.#.#.;.#.#.#;#.#.#.;";
    private static final String WINDING = "D#...#;.#.#.#;.#.#.#;.#.#.#;.#.#.#;...#..;";

    public static void main(String[] args) {
        nothingIsChanged();
        lanesInRows();
        lane();
        laneRefused();
        rooms();
        roomsAreNumbered();
        room();
        reachOfTheDock();
        needed();
        reach();
        whenNow();
        whenFourHundred();
        whenBehindNone();
        when();
        checks.end();
    }

    private static SweptFloors wandered(boolean lost) {
        SweptFloors x = Checks.floorOf("..d.;.D#!;..n.;");
        x.goes(5);
        x.keep(0);
        x.rotates(2);
        if (lost) {
            x.carries(3, 1);
            x.scans();
        }
        Checks.tell(x, "D.;");
        return x;
    }

    private static void nothingIsChanged() {
        checks.sentence("4 (Nothing is changed.)");
        for (int i = 0; i < 2; i++) {
            boolean lost = i == 1;
            int[] numbers = {Integer.MIN_VALUE, -2, -1, 0, 1, 2, 5, 11, 12, Integer.MAX_VALUE};
            for (int n : numbers) {
                for (int what = -1; what <= 2; what++) {
                    int w = what;
                    checks.holds("lane(" + n + ", " + w + ")", Checks.twins(() -> wandered(lost), x -> x.lane(n, w)));
                }
                checks.holds("room(" + n + ")", Checks.twins(() -> wandered(lost), x -> x.room(n)));
                checks.holds("reach(" + n + ")", Checks.twins(() -> wandered(lost), x -> x.reach(n)));
            }
            checks.holds("when()", Checks.twins(() -> wandered(lost), x -> x.when()));
        }
    }

    // ---- lanes

    private static void lanesAre(String where, SweptFloors x, int... told) {
        int count = told.length / 2;
        checks.due("lane(-1, 0) " + where, x.lane(-1, 0), count);
        checks.due("lane(-1, 1) " + where, x.lane(-1, 1), count);
        for (int k = 0; k < count; k++) {
            checks.due("lane(" + k + ", 0) " + where, x.lane(k, 0), told[2 * k]);
            checks.due("lane(" + k + ", 1) " + where, x.lane(k, 1), told[2 * k + 1]);
        }
        checks.due("one more " + where, x.lane(count, 0), NONE);
        checks.due("one more " + where, x.lane(count, 1), NONE);
    }

    private static void lanesInRows() {
        checks.sentence("LANES: in each row from the top, from the left, FREE CELLS side by side, as many as can be.");
        lanesAre("the fewest", new SweptFloors(), 0, 1);
        lanesAre("a whole row", Checks.floorOf("D.....;"), 0, 6);
        lanesAre("a column", Checks.floorOf("D;.;.;.;.;.;"), 0, 1, 1, 1, 2, 1, 3, 1, 4, 1, 5, 1);
        lanesAre("six rows", Checks.floorOf(Checks.plainFloor(6, 6, 35)), 0, 6, 6, 6, 12, 6, 18, 6, 24, 6, 30, 6);
        lanesAre("the end of a row and the start of the next", Checks.floorOf("##.;.D#;"), 2, 1, 3, 2);
        lanesAre("the last cell", Checks.floorOf("###;##D;"), 5, 1);
        lanesAre("a row without one", Checks.floorOf("D.;#!;n.;"), 0, 2, 5, 1);
        lanesAre("the most", Checks.floorOf(CHECKERED), 0, 1, 2, 1, 4, 1, 7, 1, 9, 1, 11, 1, 12, 1, 14, 1, 16, 1,
            19, 1, 21, 1, 23, 1, 24, 1, 26, 1, 28, 1, 31, 1, 33, 1, 35, 1);
        SweptFloors door = Checks.floorOf(".dD;");
        lanesAre("an open door", door, 0, 3);
        door.moves(1);
        lanesAre("a shut door", door, 0, 1, 2, 1);
        char[] parting = {'#', '!', 'n'};
        for (char sign : parting) {
            lanesAre("parted by " + sign, Checks.floorOf("D" + sign + ".;"), 0, 1, 2, 1);
        }
        SweptFloors lost = Checks.floorOf("D.#.;");
        lost.carries(3, 0);
        lanesAre("lost", lost, 0, 2, 3, 1);
    }

    private static void lane() {
        checks.sentence("How many LANES (k = -1), the k-th (0 on): its first CELL (what = 0), how many CELLS (1); NONE: not so many.");
        SweptFloors x = Checks.floorOf("D..#..;");
        checks.due("lane(-1, 0)", x.lane(-1, 0), 2);
        checks.due("lane(0, 0)", x.lane(0, 0), 0);
        checks.due("lane(0, 1)", x.lane(0, 1), 3);
        checks.due("lane(1, 0)", x.lane(1, 0), 4);
        checks.due("lane(1, 1)", x.lane(1, 1), 2);
        int[] none = {2, 3, 17, 18, 36, 64, 65, 1 << 16, Integer.MAX_VALUE};
        for (int k : none) {
            checks.due("lane(" + k + ", 0)", x.lane(k, 0), NONE);
            checks.due("lane(" + k + ", 1)", x.lane(k, 1), NONE);
        }
        SweptFloors most = Checks.floorOf(CHECKERED);
        checks.due("lane(-1, 1)", most.lane(-1, 1), 18);
        checks.due("lane(17, 0)", most.lane(17, 0), 35);
        checks.due("lane(18, 0)", most.lane(18, 0), NONE);
    }

    private static void laneRefused() {
        checks.sentence("BAD (k below -1; of k = -1 what 0, 1, too).");
        SweptFloors x = Checks.floorOf("D..#..;");
        int[] below = {-2, -3, -9, -64, Integer.MIN_VALUE};
        for (int k : below) {
            for (int what = -1; what <= 2; what++) {
                checks.due("lane(" + k + ", " + what + ")", x.lane(k, what), BAD);
            }
        }
        int[] whats = {Integer.MIN_VALUE, -2, -1, 0, 1, 2, 3, Integer.MAX_VALUE};
        for (int what : whats) {
            boolean good = what == 0 || what == 1;
            checks.due("lane(-1, " + what + ")", x.lane(-1, what), good ? 2 : BAD);
            checks.due("lane(0, " + what + ")", x.lane(0, what), what == 0 ? 0 : what == 1 ? 3 : BAD);
            checks.due("lane(2, " + what + ")", x.lane(2, what), good ? NONE : BAD);
        }
    }

    // ---- rooms

    private static void rooms() {
        checks.sentence("ROOMS: CELLS that are PLAIN or the DOCK hang together on HANDS");
        checks.due("the fewest", new SweptFloors().room(-1), 1);
        checks.due("the most", Checks.floorOf(CHECKERED).room(-1), 18);
        checks.due("all in one", Checks.floorOf(Checks.plainFloor(6, 6, 0)).room(-1), 1);
        checks.due("a winding one", Checks.floorOf(WINDING).room(-1), 1);
        checks.due("up and down", Checks.floorOf("D;.;").room(-1), 1);
        checks.due("left and right", Checks.floorOf("D.;").room(-1), 1);
        checks.due("a corner", Checks.floorOf("D#;#.;").room(-1), 2);
        checks.due("the end of a row and the start of the next", Checks.floorOf("#D;.#;").room(-1), 2);
        char[] parting = {'#', '!', 'n', 'd'};
        for (char sign : parting) {
            SweptFloors x = Checks.floorOf("D" + sign + ".;");
            checks.due("parted by " + sign, x.room(-1), 2);
            checks.due("of none: " + sign, x.room(1), NONE);
        }
        SweptFloors door = Checks.floorOf("Dd.;");
        door.moves(1);
        checks.due("parted by a shut door", door.room(-1), 2);
        checks.due("of none: a shut door", door.room(1), NONE);
    }

    private static void roomsAreNumbered() {
        checks.sentence("ROOMS are numbered by their lowest CELL.");
        SweptFloors x = Checks.floorOf(CHECKERED);
        int number = 0;
        for (int cell = 0; cell < 36; cell++) {
            boolean plain = x.cell(cell) == 0 || x.cell(cell) == 6;
            checks.due("room(" + cell + ")", x.room(cell), plain ? number : NONE);
            number += plain ? 1 : 0;
        }
        // the room of the dock is no first one by itself; a room that reaches up on its right counts from there
        SweptFloors y = Checks.floorOf(".#.;##.;D#.;...;");
        int[] rooms = {0, NONE, 1, NONE, NONE, 1, 1, NONE, 1, 1, 1, 1};
        for (int cell = 0; cell < rooms.length; cell++) {
            checks.due("room(" + cell + ")", y.room(cell), rooms[cell]);
        }
        SweptFloors z = Checks.floorOf("#.#;.#D;");
        checks.due("room(1)", z.room(1), 0);
        checks.due("room(3)", z.room(3), 1);
        checks.due("room(5)", z.room(5), 2);
    }

    private static void room() {
        checks.sentence("How many ROOMS (cell = -1), that of a CELL; NONE: it is of none. BAD.");
        int[] bad = {Integer.MIN_VALUE, -64, -9, -3, -2, 6, 7, 36, 63, 64, Integer.MAX_VALUE};
        SweptFloors x = Checks.floorOf("D#.;dn!;");
        checks.due("room(-1)", x.room(-1), 2);
        int[] rooms = {0, NONE, 1, NONE, NONE, NONE};
        for (int cell = 0; cell < rooms.length; cell++) {
            checks.due("room(" + cell + ")", x.room(cell), rooms[cell]);
        }
        for (int cell : bad) {
            checks.due("room(" + cell + ")", x.room(cell), BAD);
        }
        SweptFloors y = Checks.floorOf(Checks.plainFloor(6, 6, 0));
        checks.due("room(35)", y.room(35), 0);
        checks.due("room(36)", y.room(36), BAD);
        checks.due("room(0) of one", new SweptFloors().room(0), 0);
        checks.due("room(1) of one", new SweptFloors().room(1), BAD);
    }

    // ---- reach

    private static void reachOfTheDock() {
        checks.sentence("REACH: how many CELLS are FREE and hang together with the DOCK by FREE CELLS on HANDS (it, too).");
        checks.due("the fewest", new SweptFloors().reach(0), 1);
        checks.due("the most", Checks.floorOf(Checks.plainFloor(6, 6, 17)).reach(0), 36);
        checks.due("a corner", Checks.floorOf("D#;#.;").reach(0), 1);
        checks.due("the end of a row and the start of the next", Checks.floorOf("#D;.#;").reach(0), 1);
        checks.due("left out: free, but apart", Checks.floorOf("D.#..;").reach(0), 2);
        char[] parting = {'#', '!', 'n'};
        for (char sign : parting) {
            checks.due("parted by " + sign, Checks.floorOf("D" + sign + ".;").reach(0), 1);
        }
        SweptFloors door = Checks.floorOf("Dd.;");
        checks.due("an open door", door.reach(0), 3);
        door.moves(1);
        checks.due("a shut door", door.reach(0), 1);
        SweptFloors y = Checks.floorOf(".dD;");
        Checks.walk(y, 3, 3);
        y.moves(1);
        checks.due("of the DOCK, not of where it is", y.reach(0), 1);
    }

    private static void needed() {
        checks.sentence("NEEDED: twice the most steps from the DOCK to one of these.");
        checks.due("the fewest", new SweptFloors().reach(1), 0);
        checks.due("one", Checks.floorOf("D.;").reach(1), 2);
        checks.due("a row", Checks.floorOf("D.....;").reach(1), 10);
        checks.due("a row from its middle", Checks.floorOf("..D...;").reach(1), 6);
        checks.due("from a corner", Checks.floorOf(Checks.plainFloor(6, 6, 35)).reach(1), 20);
        checks.due("winding", Checks.floorOf(WINDING).reach(1), 40);
        checks.due("as much as the first BRIM",
            Checks.floorOf("D.....;#####.;......;.#####;......;#####.;").reach(1), 40);
        checks.due("round about", Checks.floorOf("D..;##.;...;").reach(1), 12);
        checks.due("the nearer of two ways", Checks.floorOf("D..;.#.;...;").reach(1), 8);
        checks.due("none apart", Checks.floorOf("D.#...;").reach(1), 2);
        SweptFloors door = Checks.floorOf("Dd.;");
        checks.due("an open door", door.reach(1), 4);
        door.moves(1);
        checks.due("a shut door", door.reach(1), 0);
    }

    private static void reach() {
        checks.sentence("REACH (what = 0), NEEDED (1). BAD.");
        SweptFloors x = Checks.floorOf("D..;");
        checks.due("reach(0)", x.reach(0), 3);
        checks.due("reach(1)", x.reach(1), 4);
        int[] bad = {Integer.MIN_VALUE, -2, -1, 2, 3, 64, Integer.MAX_VALUE};
        for (int what : bad) {
            checks.due("reach(" + what + ")", x.reach(what), BAD);
        }
        x.carries(2, 0);
        checks.due("reach(0), lost", x.reach(0), 3);
        checks.due("reach(1), lost", x.reach(1), 4);
    }

    // ---- when

    private static void whenNow() {
        checks.sentence("it first is in the DOCK with CHARGE BRIM and has no TARGET (0: it is so now)");
        checks.due("now", new SweptFloors().when(), 0);
        checks.due("a barred floor", Checks.floorOf("Dn;").when(), 0);
        SweptFloors below = new SweptFloors();
        below.steps();
        checks.due("one below the BRIM", below.when(), 1);
        SweptFloors rate = new SweptFloors();
        rate.powers(40, 1);
        for (int missing = 1; missing <= 40; missing++) {
            rate.steps();
            checks.due("CHARGE " + missing + " below", rate.when(), missing);
        }
        // a target: out, back, one load
        checks.due("a target", Checks.floorOf("D.;").when(), 3);
        checks.due("a wall to bump at", Checks.floorOf("D#;").when(), 2);
        SweptFloors away = Checks.floorOf("D.;");
        Checks.walk(away, 1);
        checks.due("not in the DOCK", away.when(), 2);
        // at the BRIM and without a target, but not in the DOCK: a step home, a load
        SweptFloors brim = Checks.floorOf("D..;");
        Checks.walk(brim, 1);
        brim.powers(2, 1);
        checks.due("no target", brim.target(0), NONE);
        checks.due("CHARGE BRIM, not in the DOCK", brim.when(), 2);
        // the target is too far: none
        SweptFloors few = Checks.floorOf("D.;");
        few.powers(1, 1);
        checks.due("a BRIM of 1", few.when(), 0);
        few.powers(2, 1);
        checks.due("CHARGE 1 of 2", few.when(), 1 + 2 + 2);
    }

    private static SweptFloors winding(int charge) {
        SweptFloors x = Checks.floorOf(WINDING);
        x.powers(charge, 1);
        x.powers(38, 1);
        return x;
    }

    private static void whenFourHundred() {
        checks.sentence("WHEN: behind how many ACTIONS (0 .. 400) from now on");
        // 374 actions with a charge of 38, and one more for each that is missing
        checks.due("374", winding(38).when(), 374);
        checks.due("399", winding(13).when(), 399);
        checks.due("400", winding(12).when(), 400);
        checks.due("401", winding(11).when(), NONE);
        checks.due("402", winding(10).when(), NONE);
        SweptFloors x = winding(11);
        x.goes(1);
        checks.due("400 behind one action", x.when(), 400);
        x.goes(1);
        checks.due("399 behind two", x.when(), 399);
        // goes() tells that it is so behind 401, and not before
        SweptFloors y = winding(11);
        int actions = 0;
        for (int i = 0; i < 6; i++) {
            y.goes(60);
            actions += 60;
        }
        while (actions < 401 && !(y.robot(0) == 0 && y.robot(2) == 38 && y.target(0) == NONE)) {
            y.goes(1);
            actions++;
        }
        checks.due("actions", actions, 401);
        checks.due("now", y.when(), 0);
    }

    private static void whenBehindNone() {
        checks.sentence("NONE: LOST, or behind none.");
        SweptFloors lost = new SweptFloors();
        lost.carries(0, 0);
        checks.due("lost in the DOCK at the BRIM", lost.when(), NONE);
        lost.undo();
        checks.due("not lost", lost.when(), 0);
        SweptFloors empty = Checks.floorOf("D.;");
        empty.powers(1, 1);
        Checks.walk(empty, 1);
        checks.due("no charge", empty.when(), NONE);
        SweptFloors shut = Checks.floorOf("Dd.;");
        Checks.walk(shut, 1, 1);
        shut.moves(1);
        checks.due("shut out", shut.when(), NONE);
        shut.moves(1);
        checks.due("not shut out", shut.when(), 3);
        // too little to come home: it stands still on its way
        SweptFloors far = Checks.floorOf("D..;");
        far.powers(3, 1);
        Checks.walk(far, 1, 1);
        checks.due("one step short of home", far.when(), NONE);
        SweptFloors near = Checks.floorOf("D..;");
        near.powers(4, 1);
        Checks.walk(near, 1, 1);
        checks.due("just enough to come home", near.when(), 2 + 4);
    }

    private static void when() {
        checks.sentence("`int when()`: WHEN; NONE.");
        SweptFloors x = Checks.floorOf("D....;");
        int[] due = {10, 9, 8, 7, 6, 5, 4, 3, 2, 1, 0, 0};
        for (int i = 0; i < due.length; i++) {
            checks.due("when() behind " + i + " actions", x.when(), due[i]);
            checks.due("when() again", x.when(), due[i]);
            x.goes(1);
        }
        x.carries(0, 0);
        checks.due("when(), lost", x.when(), NONE);
    }
}
