import java.util.function.Consumer;

/** The boundaries of '2 THE ROBOT' and '3 BY ITSELF' and of promises 6 to 13, a test for each sentence that names one. */
public final class DoneBoundsTest {
    private static final Checks checks = new Checks("DoneBoundsTest");
    private static final String CROSS = ".n.;!D#;.d.;";
    private static final int[] UP_RIGHT_DOWN_LEFT = {0, 1, 2, 3};

    public static void main(String[] args) {
        robotAtFirst();
        lostOrNot();
        chargeAtFirst();
        knowsAtFirst();
        stepCosts();
        stepBumps();
        stepStopsAndTurnsBack();
        stepTeaches();
        stepTeachesNothingWhileLost();
        stepByHeading();
        turnWraps();
        theFirstOfThese();
        loads();
        nothingWithoutCharge();
        stepsToTheTarget();
        stepsHome();
        nothingElse();
        waysByKnownCellsAlone();
        canBeWithinTheCharge();
        powers();
        powersAboveTheBrim();
        moves();
        movesUnderTheRobot();
        steps();
        rotates();
        scans();
        scansChangeNothingElse();
        carries();
        carriesMakesItLost();
        goes();
        goesSixty();
        goesLost();
        undoneKinds();
        undoneAll();
        undoneSix();
        undo();
        checks.end();
    }

    private static SweptFloors withCharge(String text, int charge, int brim, int rate) {
        SweptFloors x = Checks.floorOf(text);
        if (charge < 40) {
            x.powers(charge, 1);
        }
        x.powers(brim, rate);
        return x;
    }

    // ---- 2 THE ROBOT

    private static void robotAtFirst() {
        checks.sentence("stands in a FREE CELL (at first in the DOCK), its HEADING is a HAND (0 at first)");
        for (int dock = 0; dock < 36; dock++) {
            SweptFloors x = Checks.floorOf(Checks.plainFloor(6, 6, dock));
            checks.due("the cell", x.robot(0), dock);
            checks.due("HEADING", x.robot(1), 0);
            checks.due("LOST", x.robot(3), 0);
        }
    }

    private static void lostOrNot() {
        checks.sentence("It is LOST, or not (at first).");
        SweptFloors x = Checks.floorOf("D.n;");
        checks.due("at first", x.robot(3), 0);
        x.carries(1, 1);
        checks.due("carried", x.robot(3), 1);
        x.carries(0, 1);
        checks.due("carried while lost", x.robot(3), 1);
        x.undo();
        checks.due("carried once", x.robot(3), 1);
        x.undo();
        checks.due("not carried", x.robot(3), 0);
        x.carries(1, 1);
        x.steps();
        checks.due("found", x.robot(3), 0);
        x.carries(1, 1);
        Checks.tell(x, "D;");
        x.floor();
        checks.due("a new floor", x.robot(3), 0);
    }

    private static void chargeAtFirst() {
        checks.sentence("it has a CHARGE (0 .. BRIM; BRIM at first)");
        SweptFloors x = new SweptFloors();
        checks.due("CHARGE at first", x.robot(2), 40);
        for (int charge = 39; charge >= 0; charge--) {
            x.steps();
            checks.due("CHARGE", x.robot(2), charge);
        }
        checks.due("no step below 0", x.steps(), Checks.STATE);
        checks.due("CHARGE", x.robot(2), 0);
        for (int i = 0; i < 9; i++) {
            x.goes(1);
            checks.due("CHARGE, loading", x.robot(2), Math.min(40, 5 * (i + 1)));
        }
        checks.due("the BRIM", x.count(3), 40);
    }

    private static void knowsAtFirst() {
        checks.sentence("It KNOWS of each CELL 0 nothing (at first; of the DOCK 1), 1 that it was FREE, or 2 that it was not.");
        for (int dock = 0; dock < 36; dock++) {
            SweptFloors x = Checks.floorOf(Checks.plainFloor(6, 6, dock));
            for (int cell = 0; cell < 36; cell++) {
                checks.due("knows(" + cell + ")", x.knows(cell), cell == dock ? 1 : 0);
            }
            checks.due("of how many 1", x.robot(4), 1);
            checks.due("of how many 2", x.robot(5), 0);
        }
    }

    private static void stepCosts() {
        checks.sentence("A STEP to a HAND: HEADING is that HAND, CHARGE is 1 less.");
        // up barred, right a wall, down an open door, left a cliff
        int[] told = {3, 1, 0, 2};
        for (int hand : UP_RIGHT_DOWN_LEFT) {
            SweptFloors x = Checks.floorOf(CROSS);
            checks.due("a step to " + hand, Checks.walk(x, hand), told[hand]);
            checks.due("CHARGE", x.robot(2), 39);
            checks.due("HEADING", x.robot(1), hand);
            SweptFloors y = withCharge(CROSS, 1, 1, 1);
            checks.due("the last step to " + hand, Checks.walk(y, hand), told[hand]);
            checks.due("CHARGE", y.robot(2), 0);
        }
        SweptFloors z = Checks.floorOf("...;.D.;...;");
        z.goes(1);
        checks.due("HEADING, by itself", z.robot(1), 0);
        z.goes(1);
        checks.due("HEADING, by itself", z.robot(1), 3);
        z.goes(1);
        checks.due("HEADING, by itself", z.robot(1), 2);
        checks.due("CHARGE, by itself", z.robot(2), 37);
    }

    private static void stepBumps() {
        checks.sentence("If there is no CELL on that HAND, or it is a WALL, or a shut DOOR, it BUMPS (1)");
        String[] walls = {".#.;.D.;...;", "...;.D#;...;", "...;.D.;.#.;", "...;#D.;...;"};
        String[] doors = {".d.;.D.;...;", "...;.Dd;...;", "...;.D.;.d.;", "...;dD.;...;"};
        int[] ahead = {1, 5, 7, 3};
        for (int hand : UP_RIGHT_DOWN_LEFT) {
            SweptFloors edge = new SweptFloors();
            checks.due("no cell to " + hand, Checks.walk(edge, hand), 1);
            checks.due("stays", edge.robot(0), 0);
            SweptFloors wall = Checks.floorOf(walls[hand]);
            checks.due("a wall to " + hand, Checks.walk(wall, hand), 1);
            checks.due("stays", wall.robot(0), 4);
            SweptFloors door = Checks.floorOf(doors[hand]);
            door.moves(ahead[hand]);
            checks.due("a shut door to " + hand, Checks.walk(door, hand), 1);
            checks.due("stays", door.robot(0), 4);
            door.moves(ahead[hand]);
            checks.due("an open door to " + hand, Checks.walk(door, hand), 0);
            checks.due("goes", door.robot(0), ahead[hand]);
        }
    }

    private static void stepStopsAndTurnsBack() {
        checks.sentence("if it is a CLIFF, it STOPS (2); if it is BARRED, it TURNS BACK (3): it stays where it is then; "
            + "else it goes there (0).");
        String[] cliffs = {".!.;.D.;...;", "...;.D!;...;", "...;.D.;.!.;", "...;!D.;...;"};
        int[] ahead = {1, 5, 7, 3};
        for (int hand : UP_RIGHT_DOWN_LEFT) {
            SweptFloors cliff = Checks.floorOf(cliffs[hand]);
            checks.due("a cliff to " + hand, Checks.walk(cliff, hand), 2);
            checks.due("stays", cliff.robot(0), 4);
            SweptFloors barred = Checks.floorOf(cliffs[hand].replace('!', 'n'));
            checks.due("a barred one to " + hand, Checks.walk(barred, hand), 3);
            checks.due("stays", barred.robot(0), 4);
            SweptFloors plain = Checks.floorOf(cliffs[hand].replace('!', '.'));
            checks.due("a plain one to " + hand, Checks.walk(plain, hand), 0);
            checks.due("goes", plain.robot(0), ahead[hand]);
            checks.due("back to the dock", Checks.walk(plain, (hand + 2) % 4), 0);
            checks.due("goes", plain.robot(0), 4);
        }
    }

    private static void stepTeaches() {
        checks.sentence("If it is not LOST, it KNOWS of the CELL to which it went 1, of one that BUMPED or STOPPED it 2 "
            + "(a CELL that is BARRED it KNOWS nothing of).");
        // the hand, what lies there, what it knows then
        int[][] told = {{0, 1, 0}, {1, 5, 2}, {2, 7, 1}, {3, 3, 2}};
        for (int[] t : told) {
            SweptFloors x = Checks.floorOf(CROSS);
            Checks.walk(x, t[0]);
            for (int cell = 0; cell < 9; cell++) {
                checks.due("knows(" + cell + ") behind a step to " + t[0], x.knows(cell),
                    cell == t[1] ? t[2] : cell == 4 ? 1 : 0);
            }
        }
        for (int hand : UP_RIGHT_DOWN_LEFT) {
            SweptFloors edge = new SweptFloors();
            Checks.walk(edge, hand);
            checks.due("known 1 at the edge", edge.robot(4), 1);
            checks.due("known 2 at the edge", edge.robot(5), 0);
        }
        SweptFloors door = Checks.floorOf("Dd;");
        door.moves(1);
        Checks.walk(door, 1);
        checks.due("the door, shut", door.knows(1), 2);
        door.moves(1);
        checks.due("the door, opened unknown to it", door.knows(1), 2);
        Checks.walk(door, 1);
        checks.due("the door, open", door.knows(1), 1);
        checks.due("known 1", door.robot(4), 2);
        checks.due("known 2", door.robot(5), 0);
        Checks.walk(door, 3);
        door.moves(1);
        checks.due("the door, shut unknown to it", door.knows(1), 1);
        Checks.walk(door, 1);
        checks.due("the door, shut", door.knows(1), 2);
        checks.due("known 1", door.robot(4), 1);
        checks.due("known 2", door.robot(5), 1);
    }

    private static void stepTeachesNothingWhileLost() {
        checks.sentence("it tells of the CELL ahead: FREE (0), not FREE and not BARRED (1 or 2, all the same), BARRED (3).");
        int[] told = {3, 1, 0, 2};
        for (int hand : UP_RIGHT_DOWN_LEFT) {
            SweptFloors x = Checks.floorOf(CROSS);
            x.carries(4, hand);
            checks.due("a step to " + hand + ", lost", x.steps(), told[hand]);
            checks.due("still lost", x.robot(3), 1);
            for (int cell = 0; cell < 9; cell++) {
                checks.due("knows(" + cell + "), lost", x.knows(cell), cell == 4 ? 1 : 0);
            }
            checks.due("CHARGE, lost", x.robot(2), 39);
        }
        // a wall and a cliff leave the same places
        SweptFloors wall = Checks.floorOf(".D.;.#.;");
        SweptFloors cliff = Checks.floorOf(".D.;.!.;");
        wall.carries(1, 2);
        cliff.carries(1, 2);
        checks.due("a wall", wall.steps(), 1);
        checks.due("a cliff", cliff.steps(), 2);
        checks.due("as many places", wall.place(-1), cliff.place(-1));
        for (int k = 0; k < wall.place(-1); k++) {
            checks.due("the same place", wall.place(k), cliff.place(k));
        }
    }

    private static void stepByHeading() {
        checks.sentence("A STEP of THE ROBOT goes to the HAND that its HEADING tells");
        int[] ahead = {1, 5, 7, 3};
        for (int heading : UP_RIGHT_DOWN_LEFT) {
            SweptFloors x = Checks.floorOf("...;.D.;...;");
            x.carries(4, heading);
            checks.due("a step with HEADING " + heading + ", lost", x.steps(), 0);
            checks.due("the cell", x.robot(0), ahead[heading]);
            checks.due("HEADING", x.robot(1), heading);
            checks.due("a step on", x.steps(), 1);
            checks.due("the cell", x.robot(0), ahead[heading]);
        }
        SweptFloors turned = Checks.floorOf("...;.D.;...;");
        turned.carries(4, 3);
        turned.rotates(2);
        checks.due("a step behind a turn, lost", turned.steps(), 0);
        checks.due("the cell", turned.robot(0), 5);
    }

    private static void turnWraps() {
        checks.sentence("A TURN by q (1 .. 3) quarters to the right: HEADING is (HEADING and q) modulo 4; CHARGE stays.");
        for (int heading = 0; heading < 4; heading++) {
            for (int q = 1; q <= 3; q++) {
                SweptFloors x = Checks.floorOf("D..;");
                Checks.face(x, heading);
                checks.due("rotates(" + q + ") of " + heading, x.rotates(q), (heading + q) % 4);
                checks.due("HEADING", x.robot(1), (heading + q) % 4);
                checks.due("CHARGE", x.robot(2), 40);
                x.carries(1, heading);
                checks.due("rotates(" + q + ") of " + heading + ", lost", x.rotates(q), (heading + q) % 4);
                checks.due("the cell", x.robot(0), 1);
            }
        }
        SweptFloors y = withCharge("D;", 1, 1, 1);
        y.steps();
        checks.due("rotates(3) with CHARGE 0", y.rotates(3), 3);
        checks.due("rotates(1) with CHARGE 0", y.rotates(1), 0);
        checks.due("CHARGE", y.robot(2), 0);
    }

    // ---- 3 BY ITSELF

    private static void theFirstOfThese() {
        checks.sentence("BY ITSELF (not LOST) it does, in an ACTION, the first of these that can be");
        // (a) ahead of (b): in the dock without a charge
        SweptFloors a = withCharge("D#;", 1, 40, 5);
        Checks.walk(a, 1);
        a.goes(1);
        checks.due("it loads with CHARGE 0", a.robot(2), 5);
        // (a) ahead of (c): in the dock below the brim, with a target
        SweptFloors target = withCharge("D.;", 39, 40, 5);
        checks.due("a target", target.target(0), 1);
        checks.due("it loads", target.goes(1), 0);
        checks.due("CHARGE", target.robot(2), 40);
        // (b) ahead of (d): a home, but no charge
        SweptFloors b = withCharge("D.;", 1, 40, 5);
        Checks.walk(b, 1);
        checks.due("home", b.home(1), 1);
        checks.due("it does nothing", b.goes(1), 0);
        checks.due("the cell", b.robot(0), 1);
        // (c) ahead of (d): a target and a home
        SweptFloors c = Checks.floorOf("D..;");
        Checks.walk(c, 1);
        checks.due("a target", c.target(0), 2);
        checks.due("home", c.home(1), 1);
        checks.due("a step", c.goes(1), 1);
        checks.due("to the target", c.robot(0), 2);
        // (d) ahead of (e): a home alone
        checks.due("no target", c.target(0), Checks.NONE);
        checks.due("a step", c.goes(1), 1);
        checks.due("home", c.robot(0), 1);
    }

    private static void loads() {
        checks.sentence("(a) in the DOCK with CHARGE below BRIM: CHARGE is RATE more, BRIM at most");
        for (int charge = 0; charge <= 40; charge++) {
            SweptFloors x = new SweptFloors();
            for (int i = charge; i < 40; i++) {
                x.steps();
            }
            checks.due("an action with CHARGE " + charge, x.goes(1), 0);
            checks.due("CHARGE behind " + charge, x.robot(2), Math.min(40, charge + 5));
        }
        for (int rate = 1; rate <= 20; rate++) {
            SweptFloors x = withCharge("D.;", 1, 21, rate);
            x.goes(1);
            checks.due("CHARGE with RATE " + rate, x.robot(2), 1 + rate);
            checks.due("the DOCK", x.robot(0), 0);
            SweptFloors y = withCharge("D.;", 1, 20, rate);
            y.goes(1);
            checks.due("CHARGE with RATE " + rate + " and BRIM 20", y.robot(2), Math.min(20, 1 + rate));
        }
        // one below the brim it loads, though there is a target; at the brim it steps
        SweptFloors below = withCharge("D.;", 39, 40, 1);
        checks.due("a target", below.target(0), 1);
        checks.due("below the BRIM it loads", below.goes(1), 0);
        checks.due("CHARGE", below.robot(2), 40);
        checks.due("at the BRIM it steps", below.goes(1), 1);
        checks.due("the cell", below.robot(0), 1);
        SweptFloors away = Checks.floorOf("D..;");
        away.goes(2);
        checks.due("CHARGE below BRIM, not in the DOCK", away.goes(1), 1);
        checks.due("CHARGE", away.robot(2), 37);
    }

    private static void nothingWithoutCharge() {
        checks.sentence("(b) with CHARGE 0: nothing");
        SweptFloors x = withCharge("D..;", 2, 40, 5);
        Checks.walk(x, 1, 1);
        checks.due("CHARGE", x.robot(2), 0);
        checks.due("a home", x.home(2), 2);
        checks.due("goes(60)", x.goes(60), 0);
        checks.due("stays", x.robot(0), 2);
        checks.due("CHARGE", x.robot(2), 0);
        checks.due("HEADING", x.robot(1), 1);
        SweptFloors y = withCharge("D..;", 2, 40, 5);
        Checks.walk(y, 1);
        checks.due("CHARGE", y.robot(2), 1);
        checks.due("with CHARGE 1 it steps home", y.goes(1), 1);
        checks.due("the DOCK", y.robot(0), 0);
        checks.due("CHARGE", y.robot(2), 0);
        checks.due("in the DOCK with CHARGE 0 it loads", y.goes(1), 0);
        checks.due("CHARGE", y.robot(2), 5);
    }

    private static void stepsToTheTarget() {
        checks.sentence("(c) if there is a TARGET: in its GATE a STEP to the (first) HAND on which the TARGET lies, "
            + "else a STEP to the first HAND on which a CELL lies from which the WAY to the GATE is one less");
        String[] one = {"n.n;nDn;nnn;", "nnn;nD.;nnn;", "nnn;nDn;n.n;", "nnn;.Dn;nnn;"};
        int[] ahead = {1, 5, 7, 3};
        for (int hand : UP_RIGHT_DOWN_LEFT) {
            SweptFloors x = Checks.floorOf(one[hand]);
            checks.due("the target", x.target(0), ahead[hand]);
            checks.due("a step", x.goes(1), 1);
            checks.due("HEADING", x.robot(1), hand);
            checks.due("the cell", x.robot(0), ahead[hand]);
        }
        // from cell 0 two ways lead to the gate, over 1 and over 3: right comes ahead of down
        SweptFloors right = ringWithTail("D.n;..n;n.n;");
        checks.due("the gate", right.target(3), 4);
        checks.due("the way", right.target(1), 3);
        right.goes(1);
        checks.due("right first", right.robot(0), 1);
        // from cell 5 to the gate 2: up comes ahead of left
        SweptFloors up = Checks.floorOf(".n;..;.D;");
        checks.due("round the ring", Checks.walk(up, 0, 3, 2, 1), 0);
        up.powers(36, 1);
        checks.due("the target", up.target(0), 0);
        checks.due("the gate", up.target(3), 2);
        up.goes(1);
        checks.due("up first", up.robot(0), 3);
        // a step to a target that bumps is one, too
        SweptFloors wall = Checks.floorOf("D#;");
        checks.due("a step that bumps", wall.goes(1), 1);
        checks.due("stays", wall.robot(0), 0);
        checks.due("knows it", wall.knows(1), 2);
        SweptFloors cliff = Checks.floorOf("D!;");
        checks.due("a step that stops", cliff.goes(1), 1);
        checks.due("stays", cliff.robot(0), 0);
    }

    /** In the dock at full charge, the four cells of the ring known. */
    private static SweptFloors ringWithTail(String text) {
        SweptFloors x = Checks.floorOf(text);
        checks.due("round the ring", Checks.walk(x, 1, 2, 3, 0), 0);
        x.powers(36, 1);
        return x;
    }

    private static void stepsHome() {
        checks.sentence("(d) not in the DOCK, if its CELL has a HOME: a STEP to the first HAND on which a CELL lies "
            + "whose HOME is one less");
        String[] one = {"nDn;n.n;nnn;", "nnn;n.D;nnn;", "nnn;n.n;nDn;", "nnn;D.n;nnn;"};
        for (int hand : UP_RIGHT_DOWN_LEFT) {
            SweptFloors x = Checks.floorOf(one[hand]);
            Checks.walk(x, (hand + 2) % 4);
            checks.due("away", x.robot(0), 4);
            checks.due("a step home", x.goes(1), 1);
            checks.due("HEADING", x.robot(1), hand);
            checks.due("the DOCK", x.robot(0), x.count(2));
        }
        // two neighbours as near: the first hand of each pair
        String[] ring = {"D.;..;", ".D;..;", "..;D.;", "..;.D;"};
        int[] far = {3, 2, 1, 0};
        int[] first = {0, 0, 2, 1};
        int[][] round = {{1, 2, 3, 0, 1, 2}, {2, 3, 0, 1, 2, 3}, {0, 1, 2, 3, 0, 1}, {3, 0, 1, 2, 3, 0}};
        int[] next = {1, 0, 3, 1};
        for (int i = 0; i < ring.length; i++) {
            SweptFloors x = Checks.floorOf(ring[i]);
            Checks.walk(x, round[i]);
            checks.due("the far corner", x.robot(0), far[i]);
            checks.due("no target", x.target(0), Checks.NONE);
            checks.due("a step home", x.goes(1), 1);
            checks.due("HEADING", x.robot(1), first[i]);
            checks.due("the cell", x.robot(0), next[i]);
        }
    }

    private static void nothingElse() {
        checks.sentence("(e) nothing.");
        SweptFloors x = new SweptFloors();
        checks.due("in the DOCK at the BRIM without a target", x.goes(60), 0);
        checks.due("CHARGE", x.robot(2), 40);
        // without a home: the door behind it was shut, and it bumped
        SweptFloors y = Checks.floorOf("Dd.;");
        Checks.walk(y, 1, 1);
        y.moves(1);
        Checks.walk(y, 3);
        checks.due("no home", y.home(2), Checks.NONE);
        checks.due("goes(60)", y.goes(60), 0);
        checks.due("stays", y.robot(0), 2);
        checks.due("CHARGE", y.robot(2), 37);
    }

    private static void waysByKnownCellsAlone() {
        checks.sentence("WAYS lead from CELL to CELL on a HAND, all of them (the first one, too) such of which it KNOWS 1.");
        // found in a cell of which it knows 0, beside the dock and beside an unknown cell
        SweptFloors x = Checks.floorOf("D.n;");
        x.carries(1, 1);
        checks.due("turned back", x.steps(), 3);
        checks.due("found", x.robot(3), 0);
        checks.due("knows(1)", x.knows(1), 0);
        checks.due("no home", x.home(1), Checks.NONE);
        checks.due("no target", x.target(0), Checks.NONE);
        checks.due("nothing by itself", x.goes(60), 0);
        checks.due("stays", x.robot(0), 1);
        // found on a door of which it knows 2
        SweptFloors y = Checks.floorOf("Ddn;");
        y.moves(1);
        Checks.walk(y, 1);
        y.moves(1);
        y.carries(1, 1);
        checks.due("turned back", y.steps(), 3);
        checks.due("found", y.robot(3), 0);
        checks.due("knows(1)", y.knows(1), 2);
        checks.due("no home", y.home(1), Checks.NONE);
        checks.due("nothing by itself", y.goes(60), 0);
        // known again by going there: the way is one again
        Checks.walk(y, 3, 1);
        checks.due("knows(1)", y.knows(1), 1);
        checks.due("home", y.home(1), 1);
        checks.due("home by itself", y.goes(1), 1);
        // no way over a corner, nor over the end of a row
        SweptFloors z = Checks.floorOf("D.n.;");
        Checks.walk(z, 1);
        checks.due("home(1)", z.home(1), 1);
        checks.due("no target beyond the barred one", z.target(0), Checks.NONE);
    }

    private static void canBeWithinTheCharge() {
        checks.sentence("it can be, if WAY and BACK together are CHARGE at most");
        for (int length = 1; length <= 5; length++) {
            for (int charge = 2 * length - 1; charge <= 2 * length + 1; charge++) {
                SweptFloors x = Checks.floorOf("D.....".substring(0, 1 + length) + ";");
                for (int i = 1; i < length; i++) {
                    Checks.walk(x, 1);
                }
                for (int i = 1; i < length; i++) {
                    Checks.walk(x, 3);
                }
                x.powers(charge, 1);
                checks.due("from the DOCK, " + length + " with CHARGE " + charge, x.target(0),
                    charge >= 2 * length ? length : Checks.NONE);
                checks.due("goes(1)", x.goes(1), charge >= 2 * length ? 1 : 0);
            }
        }
        // beside the target, but far from home: one to go, four to come back
        for (int charge = 4; charge <= 6; charge++) {
            SweptFloors x = Checks.floorOf("D....;");
            Checks.walk(x, 1, 1, 1);
            x.powers(charge, 1);
            checks.due("from the gate with CHARGE " + charge, x.target(0), charge >= 5 ? 4 : Checks.NONE);
            x.goes(1);
            checks.due("the cell", x.robot(0), charge >= 5 ? 4 : 2);
        }
    }

    // ---- promises 6 to 13

    private static void powers() {
        checks.sentence("BRIM and RATE told: CHARGE. BAD; STATE: they are that.");
        int[] wild = {Integer.MIN_VALUE, -99, -40, -20, -5, 101, 128, 140, 256, Integer.MAX_VALUE};
        for (int brim = -1; brim <= 101; brim++) {
            boolean good = brim >= 1 && brim <= 99;
            checks.due("powers(" + brim + ", 7)", Checks.floorOf("D.;").powers(brim, 7),
                good ? Math.min(brim, 40) : Checks.BAD);
        }
        for (int rate = -1; rate <= 22; rate++) {
            boolean good = rate >= 1 && rate <= 20;
            checks.due("powers(40, " + rate + ")", Checks.floorOf("D.;").powers(40, rate),
                rate == 5 ? Checks.STATE : good ? 40 : Checks.BAD);
        }
        for (int number : wild) {
            checks.due("powers(" + number + ", 5)", new SweptFloors().powers(number, 5), Checks.BAD);
            checks.due("powers(40, " + number + ")", new SweptFloors().powers(40, number), Checks.BAD);
            checks.due("powers(" + number + ", " + number + ")", new SweptFloors().powers(number, number), Checks.BAD);
        }
        SweptFloors x = new SweptFloors();
        checks.due("powers(40, 5), they are that", x.powers(40, 5), Checks.STATE);
        checks.due("the RATE alone", x.powers(40, 20), 40);
        checks.due("they are that", x.powers(40, 20), Checks.STATE);
        checks.due("the BRIM alone", x.powers(99, 20), 40);
        checks.due("they are that", x.powers(99, 20), Checks.STATE);
        checks.due("as at first", x.powers(40, 5), 40);
        checks.due("BRIM", x.count(3), 40);
        checks.due("RATE", x.count(4), 5);
        checks.due("to undo", x.count(6), 3);
        checks.due("powers(1, 1)", x.powers(1, 1), 1);
        checks.due("powers(1, 1), they are that", x.powers(1, 1), Checks.STATE);
    }

    private static void powersAboveTheBrim() {
        checks.sentence("BRIM and RATE told (CHARGE becomes BRIM, if it is above)");
        for (int brim = 36; brim <= 39; brim++) {
            SweptFloors x = new SweptFloors();
            x.steps();
            x.steps();
            checks.due("CHARGE 38, BRIM " + brim, x.powers(brim, 5), Math.min(38, brim));
            checks.due("CHARGE", x.robot(2), Math.min(38, brim));
            checks.due("BRIM", x.count(3), brim);
        }
        SweptFloors y = withCharge("D;", 1, 99, 20);
        checks.due("CHARGE stays below", y.robot(2), 1);
        y.steps();
        checks.due("CHARGE 0", y.powers(1, 1), 0);
    }

    private static void moves() {
        checks.sentence("A DOOR that is open is shut, one that is shut is opened: 1 open, 0 shut. "
            + "BAD (no DOOR, too); STATE: THE ROBOT is there.");
        // doors in the first and in the last cell
        SweptFloors x = Checks.floorOf("d.....;......;..D#!n;......;......;.....d;");
        int[] doors = {0, 35};
        for (int door : doors) {
            checks.due("moves(" + door + ")", x.moves(door), 0);
            checks.due("shut", x.cell(door), 5);
            checks.due("moves(" + door + ")", x.moves(door), 1);
            checks.due("open", x.cell(door), 4);
        }
        for (int cell = 1; cell <= 34; cell++) {
            checks.due("moves(" + cell + "), no door", x.moves(cell), Checks.BAD);
        }
        int[] none = {-1, 36, 64, 100, -64, Integer.MIN_VALUE, Integer.MAX_VALUE};
        for (int cell : none) {
            checks.due("moves(" + cell + "), no cell", x.moves(cell), Checks.BAD);
        }
        checks.due("to undo", x.count(6), 4);
        // a door of the floor before is none any more
        Checks.tell(x, "D.;");
        x.floor();
        checks.due("moves(0), no door any more", x.moves(0), Checks.BAD);
        checks.due("moves(35), no cell any more", x.moves(35), Checks.BAD);
    }

    private static void movesUnderTheRobot() {
        checks.sentence("STATE: THE ROBOT is there.");
        SweptFloors x = Checks.floorOf("Ddd;");
        checks.due("the robot in the DOCK, no door", x.moves(0), Checks.BAD);
        checks.due("beside it", x.moves(1), 0);
        x.moves(1);
        Checks.walk(x, 1);
        checks.due("under it", x.moves(1), Checks.STATE);
        checks.due("open still", x.cell(1), 4);
        checks.due("the one ahead", x.moves(2), 0);
        checks.due("the one ahead", x.moves(2), 1);
        Checks.walk(x, 1);
        checks.due("under it", x.moves(2), Checks.STATE);
        checks.due("the one behind", x.moves(1), 0);
        x.carries(2, 0);
        checks.due("under it, lost", x.moves(2), Checks.STATE);
        x.carries(0, 0);
        checks.due("not under it, lost", x.moves(2), 0);
    }

    private static void steps() {
        checks.sentence("A STEP to where HEADING tells: 0 to 3, as told. STATE: CHARGE 0.");
        int[] told = {3, 1, 0, 2};
        for (int heading : UP_RIGHT_DOWN_LEFT) {
            SweptFloors x = withCharge(CROSS, 2, 40, 5);
            Checks.face(x, heading);
            checks.due("CHARGE 2", x.steps(), told[heading]);
            checks.due("CHARGE 1", x.steps(), heading == 2 ? 1 : told[heading]);
            checks.due("CHARGE 0", x.steps(), Checks.STATE);
            checks.due("CHARGE", x.robot(2), 0);
            checks.due("HEADING", x.robot(1), heading);
            checks.due("the cell", x.robot(0), heading == 2 ? 7 : 4);
        }
        SweptFloors lost = withCharge(CROSS, 1, 40, 5);
        lost.carries(7, 1);
        checks.due("CHARGE 1, lost", lost.steps(), 0);
        checks.due("CHARGE 0, lost", lost.steps(), Checks.STATE);
        checks.due("the cell", lost.robot(0), 8);
        SweptFloors loaded = withCharge("D;", 1, 1, 1);
        loaded.steps();
        checks.due("CHARGE 0", loaded.steps(), Checks.STATE);
        loaded.goes(1);
        checks.due("CHARGE 1 again", loaded.steps(), 1);
    }

    private static void rotates() {
        checks.sentence("A TURN by q quarters to the right (1 .. 3): HEADING. BAD.");
        int[] bad = {Integer.MIN_VALUE, -4, -3, -2, -1, 0, 4, 5, 6, 7, 8, Integer.MAX_VALUE};
        for (int heading = 0; heading < 4; heading++) {
            SweptFloors x = new SweptFloors();
            Checks.face(x, heading);
            for (int q : bad) {
                checks.due("rotates(" + q + ")", x.rotates(q), Checks.BAD);
                checks.due("HEADING", x.robot(1), heading);
            }
            checks.due("rotates(1)", x.rotates(1), (heading + 1) % 4);
            checks.due("rotates(3)", x.rotates(3), heading);
            checks.due("rotates(2)", x.rotates(2), (heading + 2) % 4);
        }
    }

    private static void scans() {
        checks.sentence("A SCAN: 0 FREE, 1 not FREE and not BARRED, 2 BARRED, of the CELL ahead, times 27, "
            + "on the right, times 9, behind, times 3, on the left, together.");
        checks.due("all free", Checks.floorOf("...;.D.;...;").scans(), 0);
        checks.due("doors, open", Checks.floorOf(".d.;dDd;.d.;").scans(), 0);
        checks.due("no cell anywhere", new SweptFloors().scans(), 40);
        checks.due("all walls", Checks.floorOf(".#.;#D#;.#.;").scans(), 40);
        checks.due("all cliffs", Checks.floorOf(".!.;!D!;.!.;").scans(), 40);
        checks.due("all barred", Checks.floorOf(".n.;nDn;.n.;").scans(), 80);
        int[] weight = {27, 9, 3, 1};
        String[] one = {".n.;.D.;...;", "...;.Dn;...;", "...;.D.;.n.;", "...;nD.;...;"};
        String[] door = {".d.;.D.;...;", "...;.Dd;...;", "...;.D.;.d.;", "...;dD.;...;"};
        int[] ahead = {1, 5, 7, 3};
        for (int hand : UP_RIGHT_DOWN_LEFT) {
            for (int heading : UP_RIGHT_DOWN_LEFT) {
                int side = weight[(hand - heading + 4) % 4];
                SweptFloors barred = Checks.floorOf(one[hand]);
                Checks.face(barred, heading);
                checks.due("barred on " + hand + ", heading " + heading, barred.scans(), 2 * side);
                SweptFloors wall = Checks.floorOf(one[hand].replace('n', '#'));
                Checks.face(wall, heading);
                checks.due("a wall on " + hand + ", heading " + heading, wall.scans(), side);
                SweptFloors cliff = Checks.floorOf(one[hand].replace('n', '!'));
                Checks.face(cliff, heading);
                checks.due("a cliff on " + hand + ", heading " + heading, cliff.scans(), side);
                SweptFloors shut = Checks.floorOf(door[hand]);
                Checks.face(shut, heading);
                checks.due("an open door on " + hand + ", heading " + heading, shut.scans(), 0);
                shut.moves(ahead[hand]);
                checks.due("a shut door on " + hand + ", heading " + heading, shut.scans(), side);
            }
        }
        // the cell at the other end of the row, or of the next one, is no neighbour
        checks.due("at the right end", Checks.floorOf("..D;n..;").scans(), 27 + 9);
        checks.due("at the left end", Checks.floorOf("..n;D..;").scans(), 3 + 1);
        checks.due("at the top", Checks.floorOf(".D.;...;.n.;").scans(), 27);
        checks.due("at the bottom", Checks.floorOf(".n.;...;.D.;").scans(), 3);
    }

    private static void scansChangeNothingElse() {
        checks.sentence("(CHARGE stays; not LOST, too: then nothing else.)");
        SweptFloors x = Checks.floorOf(CROSS);
        SweptFloors y = Checks.floorOf(CROSS);
        x.scans();
        checks.due("CHARGE", x.robot(2), 40);
        checks.due("to undo", x.count(6), 1);
        x.undo();
        checks.holds("nothing else", Checks.portrait(x).equals(Checks.portrait(y)));
        SweptFloors z = Checks.floorOf(CROSS);
        z.scans();
        for (int cell = 0; cell < 9; cell++) {
            checks.due("knows(" + cell + ")", z.knows(cell), cell == 4 ? 1 : 0);
        }
        checks.due("LOST", z.robot(3), 0);
        checks.due("places", z.place(-1), 1);
        SweptFloors empty = withCharge("D;", 1, 1, 1);
        empty.steps();
        checks.due("with CHARGE 0", empty.scans(), 40);
        checks.due("CHARGE", empty.robot(2), 0);
        SweptFloors lost = Checks.floorOf(CROSS);
        lost.carries(4, 0);
        lost.scans();
        checks.due("CHARGE, lost", lost.robot(2), 40);
        checks.due("known, lost", lost.robot(4) + lost.robot(5), 1);
    }

    private static void carries() {
        checks.sentence("CARRIED to a CELL, with a HEADING: how many PLACES. BAD (no FREE CELL, too).");
        String text = "......;......;..D#!n;.d....;......;......;";
        int[] headings = {Integer.MIN_VALUE, -4, -2, -1, 0, 1, 2, 3, 4, 5, 8, Integer.MAX_VALUE};
        for (int heading : headings) {
            boolean good = heading >= 0 && heading <= 3;
            SweptFloors x = Checks.floorOf(text);
            checks.due("carries(35, " + heading + ")", x.carries(35, heading), good ? 140 : Checks.BAD);
            checks.due("LOST", x.robot(3), good ? 1 : 0);
            checks.due("the cell", x.robot(0), good ? 35 : 14);
            checks.due("HEADING", x.robot(1), good ? heading : 0);
        }
        for (int cell = -2; cell <= 38; cell++) {
            boolean good = cell >= 0 && cell <= 35 && (cell < 15 || cell > 17);
            SweptFloors x = Checks.floorOf(text);
            checks.due("carries(" + cell + ", 3)", x.carries(cell, 3), good ? 140 : Checks.BAD);
            checks.due("the cell", x.robot(0), good ? cell : 14);
        }
        int[] none = {64, 78, -64, Integer.MIN_VALUE, Integer.MAX_VALUE};
        for (int cell : none) {
            checks.due("carries(" + cell + ", 0)", Checks.floorOf(text).carries(cell, 0), Checks.BAD);
        }
        SweptFloors door = Checks.floorOf(text);
        door.moves(19);
        checks.due("a shut door", door.carries(19, 0), Checks.BAD);
        door.moves(19);
        checks.due("an open door", door.carries(19, 0), 140);
        checks.due("the fewest", new SweptFloors().carries(0, 0), 4);
        checks.due("the most", Checks.floorOf(Checks.plainFloor(6, 6, 0)).carries(35, 3), 144);
    }

    private static void carriesMakesItLost() {
        checks.sentence("It is CARRIED to a FREE CELL, its HEADING becomes any one: it is LOST then.");
        SweptFloors x = Checks.floorOf("D..;");
        checks.due("to where it is", x.carries(0, 0), 12);
        checks.due("LOST", x.robot(3), 1);
        checks.due("CHARGE", x.robot(2), 40);
        x.steps();
        checks.due("fewer places", x.place(-1), 11);
        checks.due("carried while lost: all again", x.carries(2, 3), 12);
        checks.due("the cell", x.robot(0), 2);
        SweptFloors y = withCharge("D..;", 1, 1, 1);
        y.steps();
        checks.due("with CHARGE 0", y.carries(2, 2), 12);
        checks.due("CHARGE", y.robot(2), 0);
        checks.due("HEADING", y.robot(1), 2);
    }

    private static void goes() {
        checks.sentence("n ACTIONS (1 .. 60) BY ITSELF: in how many of them it STEPPED. BAD; STATE: it is LOST.");
        int[] wild = {Integer.MIN_VALUE, -60, -1, 0, 61, 62, 120, 256, 316, Integer.MAX_VALUE};
        for (int n : wild) {
            SweptFloors x = Checks.floorOf("D.....;");
            checks.due("goes(" + n + ")", x.goes(n), Checks.BAD);
            checks.due("the cell", x.robot(0), 0);
            checks.due("to undo", x.count(6), 0);
        }
        // five steps to the end, five back, two loads of 5
        int[] stepped = {1, 2, 3, 4, 5, 6, 7, 8, 9, 10, 10, 10, 10};
        for (int n = 1; n <= 60; n++) {
            SweptFloors x = Checks.floorOf("D.....;");
            checks.due("goes(" + n + ")", x.goes(n), stepped[Math.min(n, 13) - 1]);
            checks.due("to undo", x.count(6), 1);
        }
        checks.due("nothing to do", new SweptFloors().goes(1), 0);
        checks.due("nothing to do", new SweptFloors().goes(60), 0);
        SweptFloors loading = withCharge("D.;", 1, 99, 1);
        checks.due("loading alone", loading.goes(60), 0);
        checks.due("60 actions", loading.robot(2), 61);
        checks.due("the last ones of loading", loading.goes(38), 0);
        checks.due("CHARGE", loading.robot(2), 99);
        checks.due("a step", loading.goes(1), 1);
    }

    private static void goesSixty() {
        checks.sentence("n ACTIONS (1 .. 60) BY ITSELF");
        String text = ".#....;...D.#;......;.#..#.;###..#;......;";
        SweptFloors once = withCharge(text, 40, 99, 20);
        once.goes(3);
        SweptFloors oneByOne = withCharge(text, 40, 99, 20);
        oneByOne.goes(3);
        checks.due("CHARGE", once.robot(2), 99);
        int stepped = 0;
        for (int i = 0; i < 60; i++) {
            stepped += oneByOne.goes(1);
        }
        checks.due("sixty actions, a step in each", stepped, 60);
        checks.due("goes(60)", once.goes(60), 60);
        checks.due("CHARGE", once.robot(2), 39);
        checks.due("as one by one", once.robot(0), oneByOne.robot(0));
        checks.due("HEADING", once.robot(1), oneByOne.robot(1));
        checks.due("known 1", once.robot(4), oneByOne.robot(4));
        checks.due("known 2", once.robot(5), oneByOne.robot(5));
        checks.due("goes(61)", once.goes(61), Checks.BAD);
    }

    private static void goesLost() {
        checks.sentence("STATE: it is LOST.");
        SweptFloors x = Checks.floorOf("D.n;");
        x.carries(1, 1);
        checks.due("goes(1), lost", x.goes(1), Checks.STATE);
        checks.due("goes(60), lost", x.goes(60), Checks.STATE);
        checks.due("goes(0), lost: BAD first", x.goes(0), Checks.BAD);
        checks.due("goes(61), lost: BAD first", x.goes(61), Checks.BAD);
        checks.due("the cell", x.robot(0), 1);
        checks.due("to undo", x.count(6), 1);
        x.steps();
        checks.due("found", x.robot(3), 0);
        checks.due("goes(1), found", x.goes(1), 0);
        checks.due("to undo", x.count(6), 3);
    }

    private static SweptFloors wandered() {
        SweptFloors x = Checks.floorOf("..d.;.D#!;..n.;");
        x.goes(7);
        return x;
    }

    private static void undoneKinds() {
        checks.sentence("UNDONE: the latest powers(), moves(), steps(), rotates(), scans(), carries(), goes() that was not refused");
        counts("powers", x -> x.powers(7, 2), 1);
        counts("moves", x -> x.moves(2), 1);
        counts("steps", x -> x.steps(), 1);
        counts("rotates", x -> x.rotates(1), 1);
        counts("scans", x -> x.scans(), 1);
        counts("carries", x -> x.carries(9, 2), 1);
        counts("goes", x -> x.goes(9), 1);
        counts("goes that did nothing", x -> x.goes(1), 1);
        counts("powers, BAD", x -> x.powers(0, 2), 0);
        counts("powers, STATE", x -> x.powers(40, 5), 0);
        counts("moves, BAD", x -> x.moves(0), 0);
        counts("rotates, BAD", x -> x.rotates(4), 0);
        counts("carries, BAD", x -> x.carries(6, 2), 0);
        counts("goes, BAD", x -> x.goes(61), 0);
        counts("type", x -> x.type('D'), 0);
        counts("clear", x -> x.clear(), 0);
        counts("floor with a fault", x -> x.floor(), 0);
        counts("keep", x -> x.keep(0), 0);
        counts("back, STATE", x -> x.back(0), 0);
        counts("when", x -> x.when(), 0);
        counts("target", x -> x.target(0), 0);
        SweptFloors idle = new SweptFloors();
        idle.goes(1);
        checks.due("goes that did nothing", idle.count(6), 1);
        SweptFloors lost = new SweptFloors();
        lost.carries(0, 0);
        lost.goes(1);
        checks.due("goes, STATE", lost.count(6), 1);
        SweptFloors onDoor = Checks.floorOf("Dd;");
        Checks.walk(onDoor, 1);
        onDoor.moves(1);
        checks.due("moves, STATE", onDoor.count(6), 2);
        SweptFloors empty = withCharge("D;", 1, 1, 1);
        empty.steps();
        empty.steps();
        checks.due("steps, STATE", empty.count(6), 2);
    }

    private static void counts(String call, Consumer<SweptFloors> doing, int more) {
        SweptFloors x = wandered();
        int before = x.count(6);
        doing.accept(x);
        checks.due("to undo behind " + call, x.count(6), before + more);
    }

    private static void undoneAll() {
        checks.sentence("all that 1 to 3 tell but THE TEXT is as ahead of it");
        restores("powers", x -> x.powers(7, 2));
        restores("moves", x -> x.moves(2));
        restores("steps", x -> x.steps());
        restores("rotates", x -> x.rotates(1));
        restores("scans", x -> x.scans());
        restores("carries", x -> x.carries(9, 2));
        restores("goes", x -> x.goes(60));
        SweptFloors x = wandered();
        x.type('D');
        x.rotates(1);
        x.type(';');
        x.undo();
        checks.due("THE TEXT stays", x.count(5), 2);
        checks.due("and tells a floor", x.floor(), 1);
    }

    private static void restores(String call, Consumer<SweptFloors> doing) {
        SweptFloors x = wandered();
        String before = Checks.portrait(x);
        doing.accept(x);
        x.undo();
        checks.holds("as ahead of " + call, before.equals(Checks.portrait(x)));
        SweptFloors lost = wandered();
        lost.carries(0, 3);
        lost.steps();
        before = Checks.portrait(lost);
        doing.accept(lost);
        if (lost.count(6) == 4) {
            lost.undo();
        }
        checks.holds("as ahead of " + call + ", lost", before.equals(Checks.portrait(lost)));
    }

    private static void undoneSix() {
        checks.sentence("(6 are known, older ones are lost)");
        for (int done = 0; done <= 20; done++) {
            SweptFloors x = new SweptFloors();
            for (int i = 0; i < done; i++) {
                x.steps();
            }
            int known = Math.min(done, 6);
            checks.due("to undo behind " + done, x.count(6), known);
            for (int i = 1; i <= known; i++) {
                checks.due("undo() " + i + " of " + done, x.undo(), known - i);
                checks.due("CHARGE", x.robot(2), 40 - done + i);
            }
            checks.due("no more", x.undo(), Checks.STATE);
            checks.due("CHARGE", x.robot(2), 40 - done + known);
        }
        // undone ones make room for new ones
        SweptFloors y = new SweptFloors();
        for (int i = 0; i < 8; i++) {
            y.steps();
        }
        y.undo();
        y.undo();
        checks.due("to undo", y.count(6), 4);
        y.rotates(1);
        y.rotates(1);
        checks.due("to undo", y.count(6), 6);
        y.rotates(1);
        checks.due("to undo", y.count(6), 6);
        for (int left = 5; left >= 0; left--) {
            checks.due("undo()", y.undo(), left);
        }
        checks.due("HEADING", y.robot(1), 0);
        checks.due("CHARGE", y.robot(2), 37);
        checks.due("no more", y.undo(), Checks.STATE);
    }

    private static void undo() {
        checks.sentence("UNDONE: how many more may be. STATE: none.");
        SweptFloors x = new SweptFloors();
        checks.due("undo() at first", x.undo(), Checks.STATE);
        x.rotates(3);
        checks.due("undo() of one", x.undo(), 0);
        checks.due("HEADING", x.robot(1), 0);
        checks.due("undo() again", x.undo(), Checks.STATE);
        x.rotates(1);
        x.rotates(1);
        checks.due("undo() of two", x.undo(), 1);
        checks.due("HEADING", x.robot(1), 1);
        x.keep(0);
        x.back(0);
        checks.due("undo() behind back()", x.undo(), Checks.STATE);
        x.rotates(1);
        Checks.tell(x, "D;");
        x.floor();
        checks.due("undo() behind floor()", x.undo(), Checks.STATE);
    }
}
