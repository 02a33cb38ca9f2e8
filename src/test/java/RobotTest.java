/** Promises 14 to 18: the robot. */
public final class RobotTest {
    private static final Checks checks = new Checks("RobotTest");

    public static void main(String[] args) {
        robot();
        knows();
        home();
        target();
        targetsOfTheLowestCellAndGate();
        targetsWithinTheCharge();
        placeOfOneThatIsNotLost();
        placesInALane();
        placesByUnknownCells();
        placesByDoors();
        placesByBarredCells();
        placesByAStepThatGoes();
        foundByAScan();
        foundByAStep();
        checks.end();
    }

    private static void robot() {
        SweptFloors x = Checks.floorOf("#.;.D;");
        x.rotates(3);
        x.steps();
        x.rotates(1);
        x.steps();
        int[] told = {2, 0, 38, 0, 2, 1};
        for (int what = 0; what < told.length; what++) {
            checks.due("P14 robot(" + what + ")", x.robot(what), told[what]);
        }
        x.carries(1, 3);
        int[] lost = {1, 3, 38, 1, 2, 1};
        for (int what = 0; what < lost.length; what++) {
            checks.due("P14 robot(" + what + "), lost", x.robot(what), lost[what]);
        }
        int[] bad = {-1, 6, Integer.MAX_VALUE, Integer.MIN_VALUE};
        for (int what : bad) {
            checks.due("P14 robot(" + what + ")", x.robot(what), Checks.BAD);
        }
    }

    private static void knows() {
        SweptFloors x = Checks.floorOf("#.n;.D!;");
        x.goes(20);
        int[] known = {2, 1, 0, 1, 1, 2};
        for (int cell = 0; cell < known.length; cell++) {
            checks.due("P15 knows(" + cell + ")", x.knows(cell), known[cell]);
        }
        int[] bad = {-1, 6, 64, Integer.MAX_VALUE, Integer.MIN_VALUE};
        for (int cell : bad) {
            checks.due("P15 knows(" + cell + ")", x.knows(cell), Checks.BAD);
        }
    }

    private static void home() {
        SweptFloors x = Checks.floorOf("Dd.#;....;");
        x.rotates(1);
        x.steps();
        x.steps();
        x.steps();
        checks.due("P16 home(0)", x.home(0), 0);
        checks.due("P16 home(1)", x.home(1), 1);
        checks.due("P16 home(2)", x.home(2), 2);
        checks.due("P16 home(3), a wall", x.home(3), Checks.NONE);
        checks.due("P16 home(6), not known", x.home(6), Checks.NONE);
        x.moves(1);
        checks.due("P16 home(2), shut unknown to it", x.home(2), 2);
        x.rotates(2);
        checks.due("P16 bumps", x.steps(), 1);
        checks.due("P16 home(1), shut", x.home(1), Checks.NONE);
        checks.due("P16 home(2), cut off", x.home(2), Checks.NONE);
        x.rotates(3);
        x.steps();
        checks.due("P16 home(6), cut off", x.home(6), Checks.NONE);
        x.rotates(1);
        x.steps();
        checks.due("P16 home(5), cut off", x.home(5), Checks.NONE);
        x.steps();
        checks.due("P16 home(6), by the dock", x.home(6), 3);
        x.rotates(1);
        checks.due("P16 in the dock", x.steps(), 0);
        checks.due("P16 home(4)", x.home(4), 1);
        checks.due("P16 home(2), round about", x.home(2), 4);
        x.carries(6, 0);
        checks.due("P16 home(2), lost", x.home(2), 4);
        int[] bad = {-1, 8, Integer.MAX_VALUE, Integer.MIN_VALUE};
        for (int cell : bad) {
            checks.due("P16 home(" + cell + ")", x.home(cell), Checks.BAD);
        }
    }

    private static void targetIs(String where, SweptFloors x, int... told) {
        for (int what = 0; what < 4; what++) {
            checks.due("P17 target(" + what + ") " + where, x.target(what), told[what]);
        }
    }

    private static void target() {
        SweptFloors x = Checks.floorOf("D...;");
        targetIs("at first", x, 1, 1, 1, 0);
        x.goes(2);
        targetIs("behind two", x, 3, 1, 3, 2);
        x.rotates(2);
        x.steps();
        targetIs("a step back", x, 3, 2, 3, 2);
        int[] bad = {-1, 4, Integer.MAX_VALUE, Integer.MIN_VALUE};
        for (int what : bad) {
            checks.due("P17 target(" + what + ")", x.target(what), Checks.BAD);
        }
        x.carries(1, 1);
        targetIs("lost", x, Checks.NONE, Checks.NONE, Checks.NONE, Checks.NONE);
        checks.due("P17 target(4), lost", x.target(4), Checks.BAD);
        x.undo();
        x.goes(60);
        targetIs("all known", x, Checks.NONE, Checks.NONE, Checks.NONE, Checks.NONE);
        targetIs("barred", Checks.floorOf("Dn;n.;"), Checks.NONE, Checks.NONE, Checks.NONE, Checks.NONE);
        targetIs("walls are targets, too", Checks.floorOf("D#;"), 1, 1, 1, 0);
    }

    private static void targetsOfTheLowestCellAndGate() {
        targetIs("the lowest cell", Checks.floorOf("...;.D.;...;"), 1, 1, 1, 4);
        SweptFloors x = Checks.floorOf("D.;..;");
        x.rotates(1);
        x.steps();
        x.rotates(2);
        x.steps();
        x.rotates(3);
        x.steps();
        x.rotates(2);
        x.steps();
        targetIs("the lowest gate", x, 3, 2, 2, 1);

        // from the target the gate on the right comes ahead of that on the left, but the left one is lower
        SweptFloors y = Checks.floorOf("...;.#.;.D.;");
        checks.due("P17 the wall", y.steps(), 1);
        walk(y, 3, 0, 0, 2, 2, 1, 1, 0, 0, 2, 2, 3);
        targetIs("the lowest gate, not the first hand", y, 1, 4, 4, 0);
    }

    private static void targetsWithinTheCharge() {
        SweptFloors x = Checks.floorOf("D..;");
        x.rotates(1);
        x.steps();
        x.powers(3, 1);
        targetIs("just enough", x, 2, 1, 2, 1);
        x.powers(2, 1);
        targetIs("not enough", x, Checks.NONE, Checks.NONE, Checks.NONE, Checks.NONE);
        SweptFloors y = Checks.floorOf("D.;..;");
        y.powers(1, 1);
        targetIs("not enough", y, Checks.NONE, Checks.NONE, Checks.NONE, Checks.NONE);
        y.powers(2, 1);
        y.goes(1);
        targetIs("just enough", y, 1, 1, 1, 0);

        // two targets as near, the lower one farther from home
        SweptFloors z = Checks.floorOf("...D..;");
        walk(z, 3, 3, 1);
        z.powers(5, 1);
        targetIs("enough for both", z, 0, 2, 3, 1);
        z.powers(4, 1);
        targetIs("enough for the higher one", z, 4, 2, 1, 3);
        z.powers(3, 1);
        targetIs("just enough for it", z, 4, 2, 1, 3);
        z.powers(2, 1);
        targetIs("for none", z, Checks.NONE, Checks.NONE, Checks.NONE, Checks.NONE);

        // two gates as near, the lower one farther from home
        SweptFloors w = Checks.floorOf("...;.#.;..D;");
        walk(w, 3);
        w.rotates(1);
        checks.due("P17 the wall", w.steps(), 1);
        walk(w, 3, 0, 0, 2, 2, 1, 1, 0, 0, 2, 2, 3);
        w.powers(9, 1);
        targetIs("enough for both gates", w, 1, 4, 5, 0);
        w.powers(8, 1);
        targetIs("enough for the higher gate", w, 1, 4, 3, 2);
        w.powers(7, 1);
        targetIs("just enough for it", w, 1, 4, 3, 2);
        w.powers(6, 1);
        targetIs("for none", w, Checks.NONE, Checks.NONE, Checks.NONE, Checks.NONE);
    }

    private static void walk(SweptFloors x, int... headings) {
        for (int heading : headings) {
            if (x.robot(1) != heading) {
                x.rotates((heading - x.robot(1) + 4) % 4);
            }
            checks.due("P8 goes on to " + heading, x.steps(), 0);
        }
    }

    private static void placeOfOneThatIsNotLost() {
        SweptFloors x = Checks.floorOf("D.;");
        x.rotates(1);
        x.steps();
        checks.due("P18 place(-1)", x.place(-1), 1);
        checks.due("P18 place(0)", x.place(0), 5);
        checks.due("P18 place(1)", x.place(1), Checks.NONE);
        checks.due("P18 place(most)", x.place(Integer.MAX_VALUE), Checks.NONE);
        checks.due("P18 place(-2)", x.place(-2), Checks.BAD);
        checks.due("P18 place(least)", x.place(Integer.MIN_VALUE), Checks.BAD);
    }

    private static void placesAre(String where, SweptFloors x, int... places) {
        checks.due("P18 place(-1) " + where, x.place(-1), places.length);
        for (int k = 0; k < places.length; k++) {
            checks.due("P18 place(" + k + ") " + where, x.place(k), places[k]);
        }
        checks.due("P18 one more " + where, x.place(places.length), Checks.NONE);
        checks.due("P18 lost " + where, x.robot(3), places.length == 1 ? 0 : 1);
    }

    private static void placesInALane() {
        SweptFloors x = Checks.floorOf("D..;");
        x.goes(60);
        x.carries(1, 1);
        placesAre("at first", x, 0, 1, 2, 3, 4, 5, 6, 7, 8, 9, 10, 11);
        checks.due("P18 scan", x.scans(), 10);
        placesAre("behind a scan", x, 5, 7);
        x.steps();
        placesAre("behind a step", x, 3, 9);
        checks.due("P18 bumps", x.steps(), 1);
        placesAre("behind a bump", x, 3, 9);
        x.rotates(1);
        placesAre("behind a turn", x, 0, 10);
        x.rotates(3);
        placesAre("behind a turn", x, 3, 9);
        x.rotates(2);
        placesAre("behind a turn", x, 1, 11);
        checks.due("P18 place(-2)", x.place(-2), Checks.BAD);
        checks.due("P18 place(most)", x.place(Integer.MAX_VALUE), Checks.NONE);
    }

    private static void placesByUnknownCells() {
        SweptFloors x = Checks.floorOf("D..;");
        x.carries(2, 3);
        checks.due("P18 scan", x.scans(), 13);
        placesAre("behind a scan", x, 1, 7, 11);
        x.steps();
        placesAre("behind a step", x, 3, 5, 7);
        x.steps();
        placesAre("behind two", x, 3, 9);
        x.steps();
        placesAre("behind a bump", x, 3, 9);
        checks.due("P18 knows as much", x.robot(4) + x.robot(5), 1);
    }

    private static void placesByDoors() {
        SweptFloors x = Checks.floorOf("Dd.;");
        x.goes(60);
        x.moves(1);
        x.carries(2, 3);
        placesAre("at first", x, 0, 1, 2, 3, 4, 5, 6, 7, 8, 9, 10, 11);
        checks.due("P18 scan", x.scans(), 40);
        placesAre("behind a scan", x, 0, 1, 2, 3, 8, 9, 10, 11);
        x.moves(1);
        checks.due("P18 the door is open", x.steps(), 0);
        placesAre("behind a step", x, 5, 7);

        // known to be shut, and open since
        SweptFloors y = Checks.floorOf("Dd.;");
        y.moves(1);
        y.goes(60);
        y.moves(1);
        checks.due("P18 known", y.knows(1), 2);
        y.carries(1, 3);
        placesAre("at first", y, 0, 1, 2, 3, 4, 5, 6, 7, 8, 9, 10, 11);
        checks.due("P18 scan", y.scans(), 10);
        placesAre("behind a scan", y, 5, 7);
    }

    private static void placesByBarredCells() {
        SweptFloors x = Checks.floorOf("Dn.;");
        x.carries(2, 3);
        placesAre("at first", x, 0, 1, 2, 3, 8, 9, 10, 11);
        checks.due("P18 scan", x.scans(), 67);
        placesAre("behind a scan", x, 1, 11);
        x.carries(2, 3);
        checks.due("P18 step", x.steps(), 3);
        placesAre("behind a step", x, 1, 11);
        x.carries(2, 0);
        checks.due("P18 step", x.steps(), 1);
        placesAre("behind a bump", x, 0, 2, 3, 8, 9, 10);
    }

    private static void placesByAStepThatGoes() {
        SweptFloors x = Checks.floorOf("D.;.#;");
        x.goes(60);
        x.carries(2, 0);
        checks.due("P18 step", x.steps(), 0);
        placesAre("none through the known wall", x, 0, 3, 5, 10);

        SweptFloors y = Checks.floorOf("D.;.n;");
        y.carries(2, 0);
        checks.due("P18 step", y.steps(), 0);
        placesAre("none through the barred cell", y, 0, 3, 5, 10);

        SweptFloors z = Checks.floorOf("D.;.#;");
        z.carries(2, 0);
        checks.due("P18 step", z.steps(), 0);
        placesAre("through the unknown wall", z, 0, 3, 4, 5, 10, 11, 13, 14);
    }

    private static void foundByAScan() {
        SweptFloors x = Checks.floorOf("D.;.#;");
        x.goes(60);
        checks.due("P18 knows the wall", x.knows(3), 2);
        x.carries(0, 0);
        checks.due("P18 place(-1)", x.place(-1), 12);
        checks.due("P18 scan", x.scans(), 28);
        placesAre("found", x, 0);
        checks.due("P18 when()", x.when(), 0);
        x.rotates(1);
        placesAre("found, turned", x, 1);
        x.undo();
        x.undo();
        checks.due("P18 lost again", x.place(-1), 12);
    }

    private static void foundByAStep() {
        // the cliff is not told from a wall
        SweptFloors x = Checks.floorOf("D!;");
        x.goes(60);
        x.carries(0, 1);
        checks.due("P18 place(-1)", x.place(-1), 4);
        checks.due("P18 stops", x.steps(), 2);
        checks.due("P18 place(-1)", x.place(-1), 4);

        SweptFloors y = Checks.floorOf("D.;");
        y.goes(60);
        y.carries(0, 1);
        y.steps();
        placesAre("behind a step", y, 3, 5);

        SweptFloors z = Checks.floorOf("Dd;.n;");
        z.carries(2, 1);
        checks.due("P18 barred ahead", z.steps(), 3);
        placesAre("behind a step", z, 6, 9);
        z.rotates(3);
        placesAre("behind a turn", z, 5, 8);
        checks.due("P18 up to the dock", z.steps(), 0);
        placesAre("found", z, 0);
        checks.due("P18 knows(2)", z.knows(2), 0);
        checks.due("P18 knows(0)", z.knows(0), 1);
    }
}
