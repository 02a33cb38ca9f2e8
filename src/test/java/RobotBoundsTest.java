/** The boundaries of PLACES and TARGETS and of promises 14 to 18, a test for each sentence that names one. */
public final class RobotBoundsTest {
    private static final Checks checks = new Checks("RobotBoundsTest");
    private static final int NONE = Checks.NONE, BAD = Checks.BAD;

    public static void main(String[] args) {
        robot();
        knows();
        home();
        homeIsTheFewest();
        targetIsOfKnowledgeZero();
        gateHasAHomeAndAWay();
        wayAndBack();
        targetOfSeveral();
        target();
        placesAtFirst();
        placesFewer();
        knownFreeIsFree();
        knownNotFreeIsNot();
        barredIsBarred();
        ofOthersAnything();
        scanTellsOfFourSides();
        found();
        place();
        placesLowerFirst();
        placeNotLost();
        checks.end();
    }

    // ---- promises 14 to 17

    private static void robot() {
        checks.sentence("0 the CELL where it is, 1 HEADING, 2 CHARGE, 3 whether it is LOST (1, 0), "
            + "4 how many CELLS it KNOWS 1 of, 5 2 of. BAD.");
        int[] bad = {Integer.MIN_VALUE, -6, -2, -1, 6, 7, 8, 64, Integer.MAX_VALUE};
        SweptFloors x = Checks.floorOf("D.#!;");
        robotIs("at first", x, 0, 0, 40, 0, 1, 0);
        Checks.walk(x, 1, 1);
        robotIs("behind a wall", x, 1, 1, 38, 0, 2, 1);
        for (int what : bad) {
            checks.due("robot(" + what + ")", x.robot(what), BAD);
        }
        x.carries(0, 3);
        robotIs("lost", x, 0, 3, 38, 1, 2, 1);
        for (int what : bad) {
            checks.due("robot(" + what + "), lost", x.robot(what), BAD);
        }
        SweptFloors last = Checks.floorOf(Checks.plainFloor(6, 6, 0));
        last.powers(99, 20);
        last.goes(3);
        last.goes(60);
        robotIs("all of 36 known, home again", last, 0, last.robot(1), 99, 0, 36, 0);
        SweptFloors corner = Checks.floorOf(Checks.plainFloor(6, 6, 35));
        robotIs("in the last cell", corner, 35, 0, 40, 0, 1, 0);
        SweptFloors empty = new SweptFloors();
        empty.powers(1, 1);
        Checks.walk(empty, 3);
        robotIs("without a charge", empty, 0, 3, 0, 0, 1, 0);
    }

    private static void robotIs(String where, SweptFloors x, int... told) {
        for (int what = 0; what < told.length; what++) {
            checks.due("robot(" + what + ") " + where, x.robot(what), told[what]);
        }
    }

    private static void knows() {
        checks.sentence("What it KNOWS of a CELL (0, 1, 2). BAD.");
        int[] wild = {Integer.MIN_VALUE, -64, -2, -1, 36, 37, 63, 64, 100, Integer.MAX_VALUE};
        SweptFloors x = Checks.floorOf("D#....;......;......;......;......;......;");
        Checks.walk(x, 1);
        checks.due("knows(0)", x.knows(0), 1);
        checks.due("knows(1)", x.knows(1), 2);
        checks.due("knows(35)", x.knows(35), 0);
        for (int cell : wild) {
            checks.due("knows(" + cell + ")", x.knows(cell), BAD);
        }
        for (int width = 1; width <= 6; width++) {
            for (int height = 1; height <= 6; height++) {
                int last = width * height - 1;
                SweptFloors y = Checks.floorOf(Checks.plainFloor(width, height, last));
                checks.due("knows(last)", y.knows(last), 1);
                checks.due("knows(last and 1)", y.knows(last + 1), BAD);
                checks.due("knows(-1)", y.knows(-1), BAD);
            }
        }
    }

    private static void home() {
        checks.sentence("HOME of a CELL; NONE (it KNOWS not 1 of it, too). BAD.");
        SweptFloors x = Checks.floorOf("Dd.;.#.;");
        Checks.walk(x, 1, 2, 1);
        checks.due("home(0), the DOCK", x.home(0), 0);
        checks.due("home(1), known 1", x.home(1), 1);
        checks.due("home(2), known 1", x.home(2), 2);
        checks.due("home(3), known 0", x.home(3), NONE);
        checks.due("home(4), known 2", x.home(4), NONE);
        checks.due("home(5), known 0", x.home(5), NONE);
        x.moves(1);
        Checks.walk(x, 3);
        checks.due("home(1), known 2 now", x.home(1), NONE);
        checks.due("home(2), known 1 and cut off", x.home(2), NONE);
        checks.due("home(0), the DOCK still", x.home(0), 0);
        int[] bad = {Integer.MIN_VALUE, -2, -1, 6, 7, 64, Integer.MAX_VALUE};
        for (int cell : bad) {
            checks.due("home(" + cell + ")", x.home(cell), BAD);
        }
        x.carries(0, 0);
        checks.due("home(0), lost", x.home(0), 0);
        checks.due("home(2), lost", x.home(2), NONE);
        checks.due("home(6), lost", x.home(6), BAD);
        SweptFloors last = Checks.floorOf(Checks.plainFloor(6, 6, 35));
        checks.due("home(35)", last.home(35), 0);
        checks.due("home(36)", last.home(36), BAD);
    }

    private static void homeIsTheFewest() {
        checks.sentence("HOME of a CELL: the fewest steps of a WAY from it to the DOCK; NONE.");
        // round the wall the other way it is two, not six
        SweptFloors x = Checks.floorOf("D..;.#.;...;");
        Checks.walk(x, 1, 1, 2, 2, 3, 3);
        checks.due("home(6), one way known", x.home(6), 6);
        checks.due("home(3), not known", x.home(3), NONE);
        Checks.walk(x, 0);
        checks.due("home(3), beside the DOCK", x.home(3), 1);
        checks.due("home(6), the shorter way", x.home(6), 2);
        checks.due("home(8), both as long", x.home(8), 4);
        // a long one, all along a winding floor
        SweptFloors y = Checks.floorOf("D.....;#####.;......;.#####;......;#####.;");
        y.powers(99, 20);
        Checks.walk(y, 1, 1, 1, 1, 1, 2, 2, 3, 3, 3, 3, 3, 2, 2, 1, 1, 1, 1, 1, 2);
        checks.due("the last cell", y.robot(0), 35);
        checks.due("home(35)", y.home(35), 20);
        checks.due("home(0)", y.home(0), 0);
        // the ends of two rows are no neighbours
        SweptFloors z = Checks.floorOf("..D;...;");
        Checks.walk(z, 3, 3, 2);
        checks.due("home(3)", z.home(3), 3);
    }

    private static void targetIs(String where, SweptFloors x, int... told) {
        for (int what = 0; what < 4; what++) {
            checks.due("target(" + what + ") " + where, x.target(what), told.length == 0 ? NONE : told[what]);
        }
    }

    private static void targetIsOfKnowledgeZero() {
        checks.sentence("A TARGET is a CELL that is not BARRED, of which it KNOWS 0");
        targetIs("a plain one", Checks.floorOf("D.;"), 1, 1, 1, 0);
        targetIs("a wall", Checks.floorOf("D#;"), 1, 1, 1, 0);
        targetIs("a cliff", Checks.floorOf("D!;"), 1, 1, 1, 0);
        targetIs("a door", Checks.floorOf("Dd;"), 1, 1, 1, 0);
        targetIs("a barred one", Checks.floorOf("Dn;"));
        targetIs("no cell", new SweptFloors());
        SweptFloors shut = Checks.floorOf("Dd;");
        shut.moves(1);
        targetIs("a shut door", shut, 1, 1, 1, 0);
        Checks.walk(shut, 1);
        targetIs("known 2", shut);
        shut.moves(1);
        targetIs("known 2, opened unknown to it", shut);
        Checks.walk(shut, 1);
        targetIs("known 1", shut);
    }

    private static void gateHasAHomeAndAWay() {
        checks.sentence("a GATE of it is a CELL beside it (on a HAND) that has a HOME, to which a WAY leads from where it is.");
        // the gate's home is cut off: it bumped at the door that was shut behind it
        SweptFloors x = Checks.floorOf("Dd..;");
        Checks.walk(x, 1, 1);
        targetIs("with a home", x, 3, 1, 3, 2);
        x.moves(1);
        targetIs("shut unknown to it", x, 3, 1, 3, 2);
        Checks.walk(x, 3);
        targetIs("no home", x);
        // the gate has a home, but no way leads there from where it is
        SweptFloors y = Checks.floorOf("Dd.n;.nnn;");
        Checks.walk(y, 1, 1);
        targetIs("a way", y, 4, 3, 1, 0);
        y.moves(1);
        Checks.walk(y, 3);
        checks.due("home(0)", y.home(0), 0);
        checks.due("home(2)", y.home(2), NONE);
        targetIs("no way", y);
        y.moves(1);
        Checks.walk(y, 3);
        targetIs("a way again", y, 4, 2, 1, 0);
        // beside on a corner is no gate
        targetIs("a corner", Checks.floorOf("Dn;n.;"));
        // the end of a row is no gate of the start of the next one
        targetIs("the end of a row", Checks.floorOf("nD;.n;"));
    }

    private static void wayAndBack() {
        checks.sentence("By a GATE, WAY is the fewest steps from where it is to the GATE, and 1; BACK is HOME of the GATE, and 1");
        SweptFloors x = Checks.floorOf("D....;");
        for (int away = 0; away < 4; away++) {
            targetIs("in the gate " + away, x, away + 1, 1, away + 1, away);
            Checks.walk(x, 1);
        }
        targetIs("all known", x);
        SweptFloors y = Checks.floorOf("D....;");
        Checks.walk(y, 1, 1, 1);
        for (int away = 0; away <= 3; away++) {
            targetIs("from " + away + " before the gate", y, 4, 1 + away, 4, 3);
            Checks.walk(y, 3);
        }
    }

    private static void targetOfSeveral() {
        checks.sentence("of all that can be those of the least WAY, of several of the lowest CELL, then of the lowest GATE.");
        // the least way comes ahead of the lowest cell
        SweptFloors x = Checks.floorOf("...D..;");
        Checks.walk(x, 1);
        targetIs("the nearer one", x, 5, 1, 2, 4);
        Checks.walk(x, 3);
        targetIs("the nearer one", x, 2, 1, 1, 3);
        // all as near: the lowest cell
        SweptFloors y = Checks.floorOf("...;.D.;...;");
        targetIs("of four", y, 1, 1, 1, 4);
        SweptFloors three = Checks.floorOf(".n.;.D.;...;");
        targetIs("of three", three, 3, 1, 1, 4);
        SweptFloors two = Checks.floorOf(".n.;nD.;...;");
        targetIs("of two", two, 5, 1, 1, 4);
        SweptFloors one = Checks.floorOf(".n.;nDn;...;");
        targetIs("of one", one, 7, 1, 1, 4);
        // one cell by two gates as near: the lowest gate
        SweptFloors z = Checks.floorOf("D.;..;");
        Checks.walk(z, 1, 3, 2, 0);
        targetIs("of two gates", z, 3, 2, 2, 1);
        // the lowest gate is too far from home: the other one
        SweptFloors w = Checks.floorOf("...;.#.;..D;");
        Checks.walk(w, 3, 0, 3, 0, 0, 2, 2, 1, 1, 0, 0, 2, 2, 3);
        w.powers(9, 1);
        targetIs("enough for both gates", w, 1, 4, 5, 0);
        w.powers(8, 1);
        targetIs("enough for the higher gate", w, 1, 4, 3, 2);
        w.powers(7, 1);
        targetIs("just enough for it", w, 1, 4, 3, 2);
        w.powers(6, 1);
        targetIs("for none", w);
    }

    private static void target() {
        checks.sentence("Of the TARGET: 0 which, 1 its WAY, 2 BACK, 3 its GATE; NONE: there is none, or it is LOST. BAD.");
        int[] bad = {Integer.MIN_VALUE, -4, -2, -1, 4, 5, 7, 8, 64, Integer.MAX_VALUE};
        SweptFloors x = Checks.floorOf("D...;");
        Checks.walk(x, 1, 1, 3);
        targetIs("one", x, 3, 2, 3, 2);
        for (int what : bad) {
            checks.due("target(" + what + ")", x.target(what), BAD);
        }
        x.carries(1, 0);
        targetIs("lost", x);
        for (int what : bad) {
            checks.due("target(" + what + "), lost", x.target(what), BAD);
        }
        x.undo();
        targetIs("not lost again", x, 3, 2, 3, 2);
        SweptFloors none = new SweptFloors();
        targetIs("none", none);
        for (int what : bad) {
            checks.due("target(" + what + "), none", none.target(what), BAD);
        }
    }

    // ---- places

    private static void placesAre(String where, SweptFloors x, int... places) {
        checks.due("place(-1) " + where, x.place(-1), places.length);
        for (int k = 0; k < places.length; k++) {
            checks.due("place(" + k + ") " + where, x.place(k), places[k]);
        }
        checks.due("one more " + where, x.place(places.length), NONE);
        checks.due("LOST " + where, x.robot(3), places.length == 1 ? 0 : 1);
    }

    private static void placesAtFirst() {
        checks.sentence("at first all that are not BARRED nor (KNOWN to be 2 and no DOOR), with all four HEADINGS.");
        SweptFloors unknown = Checks.floorOf("D.#!nd;");
        checks.due("nothing known: all but the barred one", unknown.carries(0, 0), 20);
        for (int k = 0; k < 20; k++) {
            checks.due("place(" + k + ")", unknown.place(k), k < 16 ? k : k + 4);
        }
        // a wall, a cliff, a shut door about the dock, bumped at one by one
        String text = "n#n;!Dd;n.n;";
        SweptFloors x = Checks.floorOf(text);
        x.moves(5);
        checks.due("nothing known", x.carries(4, 0), 20);
        x.undo();
        Checks.walk(x, 0);
        checks.due("the wall known", x.carries(4, 0), 16);
        x.undo();
        Checks.walk(x, 3);
        checks.due("the cliff known", x.carries(4, 0), 12);
        x.undo();
        Checks.walk(x, 1);
        checks.due("the shut door known 2", x.knows(5), 2);
        checks.due("the door stays a place", x.carries(4, 0), 12);
        placesAre("at first", x, 16, 17, 18, 19, 20, 21, 22, 23, 28, 29, 30, 31);
        // all four headings, whatever its own is
        for (int heading = 0; heading < 4; heading++) {
            SweptFloors one = new SweptFloors();
            checks.due("one cell", one.carries(0, heading), 4);
            placesAre("one cell", one, 0, 1, 2, 3);
        }
    }

    private static void placesFewer() {
        checks.sentence("While it is LOST, behind each STEP and SCAN those are no PLACES any more by which it can't be so; "
            + "a TURN, a STEP that goes are done to all PLACES.");
        SweptFloors x = Checks.floorOf("D..;");
        x.goes(60);
        x.carries(1, 1);
        placesAre("at first", x, 0, 1, 2, 3, 4, 5, 6, 7, 8, 9, 10, 11);
        x.scans();
        placesAre("behind a scan", x, 5, 7);
        x.steps();
        placesAre("behind a step that goes", x, 3, 9);
        x.steps();
        placesAre("behind a step that bumps", x, 3, 9);
        x.rotates(1);
        placesAre("turned: 3 becomes 0", x, 0, 10);
        x.rotates(2);
        placesAre("turned by 2", x, 2, 8);
        x.rotates(3);
        placesAre("turned by 3", x, 1, 11);
        x.rotates(3);
        placesAre("turned by 3: 0 becomes 3", x, 0, 10);
        // a door that is moved, powers that are told are none of both
        SweptFloors y = Checks.floorOf("Dd;");
        y.carries(0, 1);
        y.moves(1);
        y.powers(9, 9);
        placesAre("a door moved", y, 0, 1, 2, 3, 4, 5, 6, 7);
        y.steps();
        placesAre("behind a bump at it", y, 0, 1, 2, 3, 4, 5, 6);
    }

    private static void knownFreeIsFree() {
        checks.sentence("a CELL that it KNOWS 1 of and that is no DOOR is FREE");
        // both known 1: with a bump it does not stand before the other one
        SweptFloors x = Checks.floorOf("D.;");
        Checks.walk(x, 1);
        x.carries(1, 1);
        checks.due("a bump", x.steps(), 1);
        placesAre("not before a known one", x, 0, 2, 3, 4, 5, 6);
        // of the one of which it knows 0 it may be
        SweptFloors y = Checks.floorOf("D.;");
        y.carries(1, 1);
        checks.due("a bump", y.steps(), 1);
        placesAre("before an unknown one, not before the dock", y, 0, 1, 2, 3, 4, 5, 6);
        // of a door that it knows 1 it may be
        SweptFloors z = Checks.floorOf("Dd;");
        Checks.walk(z, 1);
        z.carries(1, 1);
        checks.due("a bump", z.steps(), 1);
        placesAre("before a door known 1", z, 0, 1, 2, 3, 4, 5, 6);
    }

    private static void knownNotFreeIsNot() {
        checks.sentence("one that it KNOWS 2 of and that is no DOOR, or where there is no CELL, is not FREE");
        String[] texts = {"D#;.n;", "D!;.n;"};
        for (String text : texts) {
            SweptFloors x = Checks.floorOf(text);
            Checks.walk(x, 1);
            x.carries(0, 2);
            checks.due("goes", x.steps(), 0);
            placesAre("none went where it knows 2 of, or where no cell is", x, 0, 10);
            SweptFloors y = Checks.floorOf(text);
            y.carries(0, 2);
            checks.due("goes", y.steps(), 0);
            placesAre("where it knows 0 of it may have gone", y, 0, 3, 5, 10);
        }
        SweptFloors edge = new SweptFloors();
        edge.carries(0, 0);
        checks.due("a bump", edge.steps(), 1);
        placesAre("no cell on any hand", edge, 0, 1, 2, 3);
        SweptFloors door = Checks.floorOf("Dd;");
        door.moves(1);
        Checks.walk(door, 1);
        door.moves(1);
        checks.due("a door known 2", door.knows(1), 2);
        door.carries(0, 1);
        checks.due("goes", door.steps(), 0);
        placesAre("through a door known 2", door, 3, 5);
    }

    private static void barredIsBarred() {
        checks.sentence("a BARRED one is BARRED (and one that is not BARRED is not)");
        SweptFloors x = Checks.floorOf("Dn.;");
        x.carries(0, 1);
        checks.due("turned back", x.steps(), 3);
        placesAre("before the barred one alone", x, 1, 11);
        SweptFloors y = Checks.floorOf("Dn.;");
        y.carries(0, 0);
        checks.due("a bump", y.steps(), 1);
        placesAre("before no barred one", y, 0, 2, 3, 8, 9, 10);
        SweptFloors z = Checks.floorOf("Dn.d;");
        z.carries(2, 1);
        checks.due("goes", z.steps(), 0);
        placesAre("not through the barred one", z, 11, 13);
        // a cell it knows nothing of is no barred one
        SweptFloors w = Checks.floorOf("n.D.;");
        w.carries(1, 3);
        checks.due("turned back", w.steps(), 3);
        placesAre("found before the only one", w, 7);
    }

    private static void ofOthersAnything() {
        checks.sentence("of all others (DOORS, CELLS it KNOWS 0 of) anything else can be.");
        // a lane of a door and a cell on both sides of the dock; scanned in the dock, the door open, then shut
        for (int known = 0; known <= 2; known++) {
            for (int shut = 0; shut < 2; shut++) {
                SweptFloors x = Checks.floorOf("Ddn;");
                if (known == 1) {
                    Checks.walk(x, 1, 3);
                }
                if (known == 2) {
                    x.moves(1);
                    Checks.walk(x, 1);
                    x.moves(1);
                }
                checks.due("the door known", x.knows(1), known);
                if (shut == 1) {
                    x.moves(1);
                }
                x.carries(0, 1);
                checks.due("a step", x.steps(), shut);
                if (shut == 1) {
                    placesAre("before the door, known " + known, x, 0, 1, 2, 3, 4, 6);
                } else {
                    placesAre("on the door, known " + known, x, 3, 5);
                }
            }
        }
        // cells it knows 0 of: a wall that may be free, a plain one that may be none
        SweptFloors y = Checks.floorOf("D.#;");
        y.carries(1, 1);
        checks.due("a bump", y.steps(), 1);
        placesAre("all but before the dock", y, 0, 1, 2, 3, 4, 5, 6, 8, 9, 10, 11);
        SweptFloors z = Checks.floorOf("D.#;");
        z.carries(0, 1);
        checks.due("goes", z.steps(), 0);
        placesAre("onto any, too where a wall is", z, 3, 5, 7, 9);
    }

    private static void scanTellsOfFourSides() {
        checks.sentence("A SCAN tells this of the CELLS ahead, on its right, behind, on its left.");
        String[] one = {".n.;.D.;...;", "...;.Dn;...;", "...;.D.;.n.;", "...;nD.;...;"};
        for (int side = 0; side < 4; side++) {
            for (int heading = 0; heading < 4; heading++) {
                SweptFloors x = Checks.floorOf(one[(side + heading) % 4]);
                x.carries(4, heading);
                checks.due("barred on side " + side, x.scans(), new int[] {54, 18, 6, 2}[side]);
                boolean in = false;
                boolean allRight = true;
                int places = x.place(-1);
                int barred = new int[] {1, 5, 7, 3}[(side + heading) % 4];
                for (int k = 0; k < places; k++) {
                    in |= x.place(k) == 16 + heading;
                    allRight &= neighbour(x.place(k) / 4, (x.place(k) + side) % 4) == barred;
                }
                checks.holds("where it is, it may be", in);
                checks.holds("all have the barred one on that side", allRight);
            }
        }
    }

    private static int neighbour(int cell, int hand) {
        int column = cell % 3 + new int[] {0, 1, 0, -1}[hand];
        int row = cell / 3 + new int[] {-1, 0, 1, 0}[hand];
        return column < 0 || column > 2 || row < 0 || row > 2 ? -1 : row * 3 + column;
    }

    private static void found() {
        checks.sentence("If there is just one PLACE (behind STEP, SCAN, TURN, or as it was CARRIED), it is FOUND: not LOST any more; "
            + "nothing is KNOWN newly by that.");
        // by a step
        SweptFloors step = Checks.floorOf("n.D.;");
        step.carries(1, 3);
        checks.due("three cells", step.place(-1), 12);
        checks.due("turned back", step.steps(), 3);
        placesAre("found by a step", step, 7);
        checks.due("knows(1)", step.knows(1), 0);
        checks.due("knows(0)", step.knows(0), 0);
        checks.due("known", step.robot(4) + step.robot(5), 1);
        // by a scan
        SweptFloors scan = Checks.floorOf("D.;.#;");
        scan.goes(60);
        scan.carries(0, 0);
        checks.due("twelve", scan.place(-1), 12);
        scan.scans();
        placesAre("found by a scan", scan, 0);
        // two are not one
        SweptFloors two = Checks.floorOf("Dn.;");
        two.carries(2, 3);
        two.steps();
        placesAre("two", two, 1, 11);
        two.rotates(1);
        placesAre("two, turned", two, 2, 8);
        checks.due("goes(1)", two.goes(1), Checks.STATE);
        // found, it goes on by itself and learns again
        scan.rotates(1);
        checks.due("a step, found", scan.steps(), 0);
        placesAre("found, it is where it is", scan, 5);
        step.rotates(2);
        checks.due("a step, found", step.steps(), 0);
        checks.due("a step, found", step.steps(), 0);
        checks.due("knows(3), found", step.knows(3), 1);
        // by a step that goes: the cell to which it went is not known by it
        SweptFloors gone = Checks.floorOf("Dd;.n;");
        gone.carries(0, 1);
        checks.due("goes", gone.steps(), 0);
        gone.rotates(1);
        checks.due("turned back", gone.steps(), 3);
        placesAre("found", gone, 6);
        checks.due("knows(1)", gone.knows(1), 0);
    }

    private static void place() {
        checks.sentence("NONE: not so many. BAD (k below -1).");
        SweptFloors x = Checks.floorOf(Checks.plainFloor(6, 6, 0));
        x.carries(35, 3);
        checks.due("place(-1)", x.place(-1), 144);
        checks.due("place(0)", x.place(0), 0);
        checks.due("place(143)", x.place(143), 143);
        int[] none = {144, 145, 255, 256, 1 << 16, Integer.MAX_VALUE};
        for (int k : none) {
            checks.due("place(" + k + ")", x.place(k), NONE);
        }
        int[] bad = {-2, -3, -9, -144, -(1 << 16), Integer.MIN_VALUE};
        for (int k : bad) {
            checks.due("place(" + k + ")", x.place(k), BAD);
        }
        SweptFloors y = new SweptFloors();
        y.carries(0, 0);
        checks.due("place(-1)", y.place(-1), 4);
        checks.due("place(3)", y.place(3), 3);
        checks.due("place(4)", y.place(4), NONE);
        checks.due("place(-2)", y.place(-2), BAD);
    }

    private static void placesLowerFirst() {
        checks.sentence("the k-th (0 on; 4 times the CELL, and HEADING; lower ones first)");
        SweptFloors x = Checks.floorOf("n.....;..D..n;");
        x.carries(8, 0);
        for (int k = 0; k < 40; k++) {
            checks.due("place(" + k + ")", x.place(k), 4 + k);
        }
        checks.due("place(40)", x.place(40), NONE);
        x.steps();
        int places = x.place(-1);
        int before = -1;
        for (int k = 0; k < places; k++) {
            checks.holds("lower ones first", x.place(k) > before);
            before = x.place(k);
        }
    }

    private static void placeNotLost() {
        checks.sentence("How many PLACES there are (k = -1; not LOST: 1, where it is)");
        SweptFloors x = Checks.floorOf(Checks.plainFloor(6, 6, 35));
        for (int heading = 0; heading < 4; heading++) {
            Checks.face(x, heading);
            checks.due("place(-1)", x.place(-1), 1);
            checks.due("place(0)", x.place(0), 140 + heading);
            checks.due("place(1)", x.place(1), NONE);
            checks.due("place(most)", x.place(Integer.MAX_VALUE), NONE);
            checks.due("place(-2)", x.place(-2), BAD);
            checks.due("place(least)", x.place(Integer.MIN_VALUE), BAD);
        }
        x.carries(0, 0);
        checks.due("place(-1), lost", x.place(-1), 144);
        x.undo();
        checks.due("place(-1), not lost again", x.place(-1), 1);
        checks.due("place(0)", x.place(0), 143);
    }
}
