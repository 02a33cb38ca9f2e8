/** Promises 19 to 22: the floor as it is. */
public final class AsItIsTest {
    private static final Checks checks = new Checks("AsItIsTest");
    private static final String WINDING = "D#...#;.#.#.#;.#.#.#;.#.#.#;.#.#.#;...#..;";
    private static final String TWO_ROOMS = "D.d.;#.#.;..d.;";

    public static void main(String[] args) {
        lanes();
        lanesRefused();
        rooms();
        reach();
        when();
        whenBehindNone();
        whenAtItsEnd();
        nothingIsChanged();
        checks.end();
    }

    private static void lanesAre(String where, SweptFloors x, int... told) {
        int count = told.length / 2;
        checks.due("P19 lane(-1, 0) " + where, x.lane(-1, 0), count);
        checks.due("P19 lane(-1, 1) " + where, x.lane(-1, 1), count);
        for (int k = 0; k < count; k++) {
            checks.due("P19 lane(" + k + ", 0) " + where, x.lane(k, 0), told[2 * k]);
            checks.due("P19 lane(" + k + ", 1) " + where, x.lane(k, 1), told[2 * k + 1]);
        }
        checks.due("P19 one more " + where, x.lane(count, 0), Checks.NONE);
        checks.due("P19 one more " + where, x.lane(count, 1), Checks.NONE);
    }

    private static void lanes() {
        SweptFloors x = Checks.floorOf("D..#..;######;.d.n.!;");
        lanesAre("open", x, 0, 3, 4, 2, 12, 3, 16, 1);
        x.moves(13);
        lanesAre("shut", x, 0, 3, 4, 2, 12, 1, 14, 1, 16, 1);
        x.carries(5, 0);
        lanesAre("lost", x, 0, 3, 4, 2, 12, 1, 14, 1, 16, 1);
        lanesAre("rows apart", Checks.floorOf("..;D.;"), 0, 2, 2, 2);
        lanesAre("six", Checks.floorOf(".....D;"), 0, 6);
        lanesAre("a column", Checks.floorOf("D;#;.;"), 0, 1, 2, 1);
    }

    private static void lanesRefused() {
        SweptFloors x = Checks.floorOf("D.#.;");
        int[][] bad = {{-2, 0}, {0, 2}, {0, -1}, {-1, 2}, {-1, -1}, {9, 2}, {Integer.MIN_VALUE, 0},
            {0, Integer.MAX_VALUE}, {Integer.MAX_VALUE, Integer.MIN_VALUE}};
        for (int[] b : bad) {
            checks.due("P19 lane(" + b[0] + ", " + b[1] + ")", x.lane(b[0], b[1]), Checks.BAD);
        }
        checks.due("P19 lane(most, 0)", x.lane(Integer.MAX_VALUE, 0), Checks.NONE);
        checks.due("P19 lane(most, 1)", x.lane(Integer.MAX_VALUE, 1), Checks.NONE);
    }

    private static void rooms() {
        SweptFloors x = Checks.floorOf(TWO_ROOMS);
        for (int shut = 0; shut < 2; shut++) {
            int[] rooms = {0, 0, -9, 1, -9, 0, -9, 1, 0, 0, -9, 1};
            checks.due("P20 room(-1)", x.room(-1), 2);
            for (int cell = 0; cell < rooms.length; cell++) {
                checks.due("P20 room(" + cell + ")", x.room(cell), rooms[cell]);
            }
            x.moves(2);
        }
        SweptFloors y = Checks.floorOf(".#D;!n.;.#.;");
        checks.due("P20 room(-1)", y.room(-1), 3);
        checks.due("P20 room(0)", y.room(0), 0);
        checks.due("P20 room(2)", y.room(2), 1);
        checks.due("P20 room(6)", y.room(6), 2);
        checks.due("P20 room(8)", y.room(8), 1);
        checks.due("P20 room(3), a cliff", y.room(3), Checks.NONE);
        checks.due("P20 room(4), barred", y.room(4), Checks.NONE);
        int[] bad = {-2, 9, 63, Integer.MAX_VALUE, Integer.MIN_VALUE};
        for (int cell : bad) {
            checks.due("P20 room(" + cell + ")", y.room(cell), Checks.BAD);
        }
        checks.due("P20 corners do not hang together", Checks.floorOf("D#;#.;").room(-1), 2);
        checks.due("P20 nor do the ends of rows", Checks.floorOf("D#.;.#.;").room(3), 0);
        checks.due("P20 eighteen", Checks.floorOf("D#.#.#;#.#.#.;.#.#.#;#.#.#.;.#.#.#;#.#.#.;").room(-1), 18);
        checks.due("P20 a winding one", Checks.floorOf(WINDING).room(-1), 1);
    }

    private static void reach() {
        SweptFloors x = Checks.floorOf(TWO_ROOMS);
        checks.due("P21 reach(0)", x.reach(0), 10);
        checks.due("P21 reach(1)", x.reach(1), 10);
        x.moves(2);
        checks.due("P21 reach(0), one shut", x.reach(0), 9);
        checks.due("P21 reach(1), one shut", x.reach(1), 14);
        x.moves(10);
        checks.due("P21 reach(0), both shut", x.reach(0), 5);
        checks.due("P21 reach(1), both shut", x.reach(1), 8);
        int[] bad = {-1, 2, Integer.MAX_VALUE, Integer.MIN_VALUE};
        for (int what : bad) {
            checks.due("P21 reach(" + what + ")", x.reach(what), Checks.BAD);
        }
        SweptFloors y = Checks.floorOf(WINDING);
        checks.due("P21 reach(0), winding", y.reach(0), 21);
        checks.due("P21 reach(1), winding", y.reach(1), 40);
        SweptFloors z = Checks.floorOf("Dn.;!#.;");
        checks.due("P21 reach(0), alone", z.reach(0), 1);
        checks.due("P21 reach(1), alone", z.reach(1), 0);
    }

    private static void when() {
        SweptFloors x = Checks.floorOf("D....;");
        // eight steps, two times loaded by 5
        checks.due("P22 when()", x.when(), 10);
        x.goes(9);
        checks.due("P22 when(), one left", x.when(), 1);
        x.goes(1);
        checks.due("P22 when(), now", x.when(), 0);
        x.steps();
        checks.due("P22 when(), to be loaded", x.when(), 1);
        SweptFloors y = Checks.floorOf("D....;");
        y.powers(4, 1);
        checks.due("P22 when(), as far as it can", y.when(), 8);
        y.powers(6, 1);
        // two times loaded, then six steps, six times loaded
        checks.due("P22 when(), further", y.when(), 2 + 6 + 6);
        checks.due("P22 when(), a brim of 1", brimOfOne().when(), 0);
    }

    private static SweptFloors brimOfOne() {
        SweptFloors x = Checks.floorOf("D....;");
        x.powers(1, 1);
        return x;
    }

    private static void whenBehindNone() {
        SweptFloors x = Checks.floorOf("D.;");
        x.carries(0, 0);
        checks.due("P22 when(), lost", x.when(), Checks.NONE);
        x.undo();
        checks.due("P22 when()", x.when(), 3);
        x.powers(1, 1);
        x.rotates(1);
        x.steps();
        checks.due("P22 when(), no charge", x.when(), Checks.NONE);
        SweptFloors y = Checks.floorOf("Dd.;");
        y.goes(2);
        y.moves(1);
        checks.due("P22 when(), locked out", y.when(), Checks.NONE);
    }

    /** goes() tells one by one how many actions there are; when() tells 400 of them and no more. */
    private static void whenAtItsEnd() {
        // 374 actions with a full charge, and one more for each that is missing
        for (int charge = 5; charge <= 38; charge++) {
            int actions = actionsUntilThrough(winding(charge));
            checks.due("P22 actions", actions, 374 + 38 - charge);
            checks.due("P22 when() of charge " + charge, winding(charge).when(),
                charge >= 12 ? actions : Checks.NONE);
        }
        SweptFloors x = winding(11);
        checks.due("P22 when(), 401", x.when(), Checks.NONE);
        x.goes(1);
        checks.due("P22 when(), 400", x.when(), 400);
    }

    private static SweptFloors winding(int charge) {
        SweptFloors x = Checks.floorOf(WINDING);
        x.powers(charge, 1);
        x.powers(38, 1);
        return x;
    }

    /** The first 360 at once, as an object has 512 calls: whatever is through stays so, nothing is missed. */
    private static int actionsUntilThrough(SweptFloors x) {
        int actions = 0;
        for (; actions < 360; actions += 60) {
            x.goes(60);
        }
        while (actions < 500 && !(x.robot(0) == x.count(2) && x.robot(2) == x.count(3) && x.target(0) == Checks.NONE)) {
            x.goes(1);
            actions++;
        }
        return actions;
    }

    private static void nothingIsChanged() {
        SweptFloors x = Checks.floorOf("..d.;.D#!;..n.;");
        x.goes(5);
        x.rotates(2);
        String before = Checks.portrait(x);
        x.when();
        x.lane(0, 1);
        x.room(3);
        x.reach(1);
        x.target(2);
        checks.holds("P19 to P22 change nothing", before.equals(Checks.portrait(x)));
        x.undo();
        x.rotates(2);
        checks.holds("P19 to P22 leave what can be undone", before.equals(Checks.portrait(x)));
    }
}
