/** Promises 6 to 13: what is done, and undone. */
public final class DoneTest {
    private static final Checks checks = new Checks("DoneTest");
    private static final String CROSS = ".n.;!D#;.d.;";

    public static void main(String[] args) {
        powers();
        moves();
        stepsToEachKind();
        stepsWithoutCharge();
        stepsWhileLost();
        rotates();
        scans();
        carries();
        goesHomeAgain();
        goesAsFarAsItCanComeBack();
        goesRefused();
        goesStuck();
        goesChoosesHands();
        undoesSix();
        undoesEachKind();
        checks.end();
    }

    private static void powers() {
        SweptFloors x = Checks.floorOf("D.;");
        int[][] bad = {{0, 1}, {100, 1}, {1, 0}, {1, 21}, {-5, 5}, {40, -1},
            {Integer.MAX_VALUE, 5}, {40, Integer.MIN_VALUE}};
        for (int[] b : bad) {
            checks.due("P6 powers(" + b[0] + ", " + b[1] + ")", x.powers(b[0], b[1]), Checks.BAD);
        }
        checks.due("P6 powers(40, 5)", x.powers(40, 5), Checks.STATE);
        checks.due("P6 nothing to undo", x.count(6), 0);
        checks.due("P6 powers(40, 6)", x.powers(40, 6), 40);
        checks.due("P6 powers(41, 6)", x.powers(41, 6), 40);
        checks.due("P6 brim", x.count(3), 41);
        checks.due("P6 rate", x.count(4), 6);
        checks.due("P6 powers(99, 20)", x.powers(99, 20), 40);
        checks.due("P6 powers(99, 20) again", x.powers(99, 20), Checks.STATE);
        checks.due("P6 powers(1, 1)", x.powers(1, 1), 1);
        checks.due("P6 charge", x.robot(2), 1);
        checks.due("P6 powers(40, 5)", x.powers(40, 5), 1);
        checks.due("P6 to undo", x.count(6), 5);
        x.carries(1, 1);
        checks.due("P6 powers, lost", x.powers(30, 5), 1);
    }

    private static void moves() {
        SweptFloors x = Checks.floorOf("D#!n.d;");
        int[] bad = {0, 1, 2, 3, 4, 6, -1, 69, Integer.MAX_VALUE, Integer.MIN_VALUE};
        for (int cell : bad) {
            checks.due("P7 moves(" + cell + ")", x.moves(cell), Checks.BAD);
        }
        checks.due("P7 shut", x.moves(5), 0);
        checks.due("P7 cell(5)", x.cell(5), 5);
        checks.due("P7 opened", x.moves(5), 1);
        checks.due("P7 cell(5)", x.cell(5), 4);

        SweptFloors y = Checks.floorOf("D.d;");
        y.rotates(1);
        y.steps();
        checks.due("P7 onto the door", y.steps(), 0);
        checks.due("P7 moves, the robot there", y.moves(2), Checks.STATE);
        checks.due("P7 still open", y.cell(2), 4);
        y.carries(2, 0);
        checks.due("P7 moves, lost there", y.moves(2), Checks.STATE);
        y.carries(1, 0);
        checks.due("P7 moves, away", y.moves(2), 0);
        checks.due("P7 known as before", y.knows(2), 1);
        checks.due("P7 places as before", y.place(-1), 12);
    }

    private static void stepsToEachKind() {
        SweptFloors x = Checks.floorOf(CROSS);
        checks.due("P8 barred", x.steps(), 3);
        checks.due("P8 stays", x.robot(0), 4);
        checks.due("P8 charge", x.robot(2), 39);
        checks.due("P8 knows nothing of it", x.knows(1), 0);
        x.rotates(1);
        checks.due("P8 wall", x.steps(), 1);
        checks.due("P8 stays", x.robot(0), 4);
        checks.due("P8 knows it", x.knows(5), 2);
        x.rotates(1);
        checks.due("P8 door, open", x.steps(), 0);
        checks.due("P8 goes", x.robot(0), 7);
        checks.due("P8 heading", x.robot(1), 2);
        checks.due("P8 knows it", x.knows(7), 1);
        checks.due("P8 the edge", x.steps(), 1);
        checks.due("P8 knows as many not free", x.robot(5), 1);
        x.rotates(2);
        checks.due("P8 the dock", x.steps(), 0);
        x.rotates(2);
        x.moves(7);
        checks.due("P8 door, shut", x.steps(), 1);
        checks.due("P8 knows it otherwise", x.knows(7), 2);
        checks.due("P8 knows two not free", x.robot(5), 2);
        checks.due("P8 knows one free", x.robot(4), 1);
        x.moves(7);
        checks.due("P8 door, open again", x.steps(), 0);
        checks.due("P8 knows it otherwise again", x.knows(7), 1);
        checks.due("P8 knows one not free", x.robot(5), 1);
        x.rotates(2);
        x.steps();
        x.rotates(3);
        checks.due("P8 cliff", x.steps(), 2);
        checks.due("P8 stays", x.robot(0), 4);
        checks.due("P8 knows it", x.knows(3), 2);
        checks.due("P8 charge", x.robot(2), 31);
    }

    private static void stepsWithoutCharge() {
        SweptFloors x = Checks.floorOf("D.;");
        x.powers(1, 1);
        x.rotates(1);
        checks.due("P8 the last step", x.steps(), 0);
        checks.due("P8 charge", x.robot(2), 0);
        checks.due("P8 to undo", x.count(6), 3);
        checks.due("P8 charge 0", x.steps(), Checks.STATE);
        checks.due("P8 charge", x.robot(2), 0);
        checks.due("P8 to undo", x.count(6), 3);
        checks.due("P8 turns all the same", x.rotates(2), 3);
        checks.due("P8 charge 0", x.steps(), Checks.STATE);
    }

    private static void stepsWhileLost() {
        SweptFloors x = Checks.floorOf(CROSS);
        x.carries(6, 1);
        checks.due("P8 lost, goes", x.steps(), 0);
        checks.due("P8 lost, cell", x.robot(0), 7);
        checks.due("P8 lost, goes on", x.steps(), 0);
        checks.due("P8 lost, the edge", x.steps(), 1);
        x.rotates(3);
        checks.due("P8 lost, wall", x.steps(), 1);
        checks.due("P8 lost, charge", x.robot(2), 36);
        for (int cell = 0; cell < 9; cell++) {
            checks.due("P8 lost, knows(" + cell + ")", x.knows(cell), cell == 4 ? 1 : 0);
        }
    }

    private static void rotates() {
        SweptFloors x = new SweptFloors();
        int[] bad = {0, 4, -1, 5, Integer.MAX_VALUE, Integer.MIN_VALUE};
        for (int q : bad) {
            checks.due("P9 rotates(" + q + ")", x.rotates(q), Checks.BAD);
        }
        checks.due("P9 nothing to undo", x.count(6), 0);
        checks.due("P9 rotates(1)", x.rotates(1), 1);
        checks.due("P9 rotates(2)", x.rotates(2), 3);
        checks.due("P9 rotates(3)", x.rotates(3), 2);
        checks.due("P9 rotates(2)", x.rotates(2), 0);
        checks.due("P9 charge", x.robot(2), 40);
        x.carries(0, 1);
        checks.due("P9 lost", x.rotates(3), 0);
    }

    private static void scans() {
        SweptFloors x = Checks.floorOf(CROSS);
        String before = Checks.portrait(x);
        int[] told = {64, 32, 16, 48};
        for (int heading = 0; heading < 4; heading++) {
            checks.due("P10 heading " + heading, x.scans(), told[heading]);
            x.rotates(1);
        }
        checks.due("P10 charge", x.robot(2), 40);
        checks.due("P10 nothing known", x.robot(4) + x.robot(5), 1);
        x.moves(7);
        checks.due("P10 the door shut", x.scans(), 67);
        SweptFloors y = Checks.floorOf(CROSS);
        y.scans();
        checks.due("P10 to undo", y.count(6), 1);
        y.undo();
        checks.holds("P10 nothing else", before.equals(Checks.portrait(y)));
    }

    private static void carries() {
        SweptFloors x = Checks.floorOf("D#!nd.;");
        int[][] bad = {{1, 0}, {2, 0}, {3, 0}, {6, 0}, {-1, 0}, {64, 0}, {0, 4}, {0, -1}, {5, 99},
            {Integer.MAX_VALUE, 0}, {Integer.MIN_VALUE, 0}};
        for (int[] b : bad) {
            checks.due("P11 carries(" + b[0] + ", " + b[1] + ")", x.carries(b[0], b[1]), Checks.BAD);
        }
        checks.due("P11 not lost", x.robot(3), 0);
        checks.due("P11 all but the barred one", x.carries(4, 3), 20);
        checks.due("P11 cell", x.robot(0), 4);
        checks.due("P11 heading", x.robot(1), 3);
        checks.due("P11 charge", x.robot(2), 40);
        checks.due("P11 lost", x.robot(3), 1);
        checks.due("P11 knows(4)", x.knows(4), 0);
        x.carries(0, 0);
        x.moves(4);
        checks.due("P11 a shut door", x.carries(4, 0), Checks.BAD);

        SweptFloors y = Checks.floorOf("Dd#;");
        y.rotates(1);
        y.steps();
        y.steps();
        checks.due("P11 known wall", y.knows(2), 2);
        checks.due("P11 no known wall", y.carries(0, 0), 8);

        SweptFloors z = Checks.floorOf("Dd;");
        z.moves(1);
        z.rotates(1);
        z.steps();
        checks.due("P11 known shut door", z.knows(1), 2);
        checks.due("P11 the door, too", z.carries(0, 2), 8);
        z.steps();
        checks.due("P11 sorted out", z.place(-1), 8 - 1);
        checks.due("P11 all again", z.carries(0, 2), 8);
    }

    private static void goesHomeAgain() {
        SweptFloors x = Checks.floorOf("D..;");
        checks.due("P12 goes(1)", x.goes(1), 1);
        checks.due("P12 cell", x.robot(0), 1);
        checks.due("P12 heading", x.robot(1), 1);
        checks.due("P12 goes(1)", x.goes(1), 1);
        checks.due("P12 cell", x.robot(0), 2);
        checks.due("P12 goes(2)", x.goes(2), 2);
        checks.due("P12 cell", x.robot(0), 0);
        checks.due("P12 heading", x.robot(1), 3);
        checks.due("P12 charge", x.robot(2), 36);
        checks.due("P12 goes(1), loading", x.goes(1), 0);
        checks.due("P12 charge, the brim at most", x.robot(2), 40);
        checks.due("P12 goes(60), nothing left", x.goes(60), 0);
        checks.due("P12 knows", x.robot(4), 3);
        checks.due("P12 goes(60) at once", Checks.floorOf("D..;").goes(60), 4);
        // a step that bumps or stops is one, too
        checks.due("P12 bumps", Checks.floorOf("D#;").goes(60), 1);
        checks.due("P12 stops", Checks.floorOf("D!;").goes(60), 1);
        checks.due("P12 never onto barred ones", Checks.floorOf("Dn;").goes(60), 0);
    }

    private static void goesAsFarAsItCanComeBack() {
        SweptFloors x = Checks.floorOf("D....;");
        x.powers(4, 1);
        checks.due("P12 goes(60)", x.goes(60), 4);
        checks.due("P12 knows", x.robot(4), 3);
        checks.due("P12 charge", x.robot(2), 4);
        x.powers(6, 1);
        checks.due("P12 loads on", x.goes(2), 0);
        checks.due("P12 charge", x.robot(2), 6);
        checks.due("P12 a target now", x.target(0), 3);
        checks.due("P12 goes(60)", x.goes(60), 6);
        checks.due("P12 knows", x.robot(4), 4);
        checks.due("P12 no target", x.target(0), Checks.NONE);
        SweptFloors y = Checks.floorOf("D....;");
        y.powers(8, 3);
        checks.due("P12 all of it", y.goes(60), 8);
        checks.due("P12 knows", y.robot(4), 5);
    }

    private static void goesRefused() {
        SweptFloors x = Checks.floorOf("D..;");
        int[] bad = {0, 61, -1, Integer.MAX_VALUE, Integer.MIN_VALUE};
        for (int n : bad) {
            checks.due("P12 goes(" + n + ")", x.goes(n), Checks.BAD);
        }
        x.carries(1, 0);
        checks.due("P12 goes(0), lost", x.goes(0), Checks.BAD);
        checks.due("P12 goes(61), lost", x.goes(61), Checks.BAD);
        checks.due("P12 goes(1), lost", x.goes(1), Checks.STATE);
        checks.due("P12 to undo", x.count(6), 1);
    }

    private static void goesStuck() {
        SweptFloors x = Checks.floorOf("D.;");
        x.powers(1, 1);
        x.rotates(1);
        x.steps();
        checks.due("P12 no charge", x.goes(5), 0);
        checks.due("P12 stays", x.robot(0), 1);

        // the way home is a door that has been shut since: it bumps, knows that, and has no home any more
        SweptFloors y = Checks.floorOf("Dd.;");
        y.goes(2);
        y.moves(1);
        checks.due("P12 home", y.home(2), 2);
        checks.due("P12 bumps once", y.goes(60), 1);
        checks.due("P12 knows the door", y.knows(1), 2);
        checks.due("P12 home", y.home(2), Checks.NONE);
        checks.due("P12 stays", y.robot(0), 2);
        checks.due("P12 charge", y.robot(2), 37);

        // found in a cell that it knows nothing of: no way leads from there
        SweptFloors z = Checks.floorOf("D.n;");
        z.carries(1, 1);
        checks.due("P12 turned back", z.steps(), 3);
        checks.due("P12 found", z.robot(3), 0);
        checks.due("P12 knows nothing newly", z.knows(1), 0);
        checks.due("P12 no target", z.target(0), Checks.NONE);
        checks.due("P12 nothing to do", z.goes(5), 0);
        checks.due("P12 stays", z.robot(0), 1);
        checks.due("P12 charge", z.robot(2), 39);
        z.rotates(2);
        checks.due("P12 the dock", z.steps(), 0);
        checks.due("P12 loads, steps, home, loads", z.goes(60), 2);
        checks.due("P12 knows it now", z.knows(1), 1);
    }

    private static void goesChoosesHands() {
        SweptFloors x = Checks.floorOf("...;.D.;...;");
        checks.due("P12 to the lowest cell", x.goes(1), 1);
        checks.due("P12 cell", x.robot(0), 1);
        x.goes(1);
        checks.due("P12 cell", x.robot(0), 0);
        x.goes(1);
        checks.due("P12 cell", x.robot(0), 3);
        x.goes(1);
        checks.due("P12 cell", x.robot(0), 6);
        x.goes(1);
        checks.due("P12 cell", x.robot(0), 7);
        x.goes(1);
        checks.due("P12 cell", x.robot(0), 8);
        x.goes(1);
        checks.due("P12 cell", x.robot(0), 5);
        x.goes(1);
        checks.due("P12 cell", x.robot(0), 2);
        // all is known: home by the first hand on which it is nearer
        x.goes(1);
        checks.due("P12 cell", x.robot(0), 5);
        checks.due("P12 heading", x.robot(1), 2);
        x.goes(1);
        checks.due("P12 cell", x.robot(0), 4);
        checks.due("P12 heading", x.robot(1), 3);

        // two ways to the gate as long: up comes ahead of right
        SweptFloors y = Checks.floorOf("..!;D.n;");
        y.rotates(1);
        y.steps();
        y.rotates(3);
        y.steps();
        y.rotates(3);
        y.steps();
        y.rotates(3);
        y.steps();
        checks.due("P12 in the dock", y.robot(0), 3);
        y.powers(36, 5);
        checks.due("P12 target", y.target(0), 2);
        checks.due("P12 gate", y.target(3), 1);
        y.goes(1);
        checks.due("P12 up first", y.robot(0), 0);
        checks.due("P12 heading", y.robot(1), 0);
    }

    private static void undoesSix() {
        SweptFloors x = new SweptFloors();
        for (int i = 1; i <= 7; i++) {
            x.rotates(1);
            checks.due("P13 to undo", x.count(6), Math.min(i, 6));
        }
        int[] headings = {2, 1, 0, 3, 2, 1};
        for (int i = 0; i < 6; i++) {
            checks.due("P13 undo()", x.undo(), 5 - i);
            checks.due("P13 heading", x.robot(1), headings[i]);
            checks.due("P13 to undo", x.count(6), 5 - i);
        }
        checks.due("P13 none left", x.undo(), Checks.STATE);
        checks.due("P13 heading", x.robot(1), 1);
        x.rotates(2);
        checks.due("P13 undo()", x.undo(), 0);
        checks.due("P13 heading", x.robot(1), 1);
    }

    private static SweptFloors wandered() {
        SweptFloors x = Checks.floorOf("..d.;.D#!;..n.;");
        x.goes(7);
        return x;
    }

    private static int done(SweptFloors x, int kind) {
        switch (kind) {
            case 0:
                return x.powers(7, 2);
            case 1:
                return x.moves(2);
            case 2:
                return x.steps();
            case 3:
                return x.rotates(3);
            case 4:
                return x.scans();
            case 5:
                return x.carries(9, 2);
            default:
                return x.goes(9);
        }
    }

    private static void undoesEachKind() {
        for (int kind = 0; kind < 7; kind++) {
            for (int next = 0; next < 7; next++) {
                SweptFloors x = wandered();
                String first = Checks.portrait(x);
                boolean done = done(x, kind) >= 0;
                String second = Checks.portrait(x);
                boolean doneNext = done(x, next) >= 0;
                x.type('.');
                x.keep(0);
                x.clear();
                if (doneNext) {
                    x.undo();
                }
                checks.holds("P13 " + next + " behind " + kind, second.equals(Checks.portrait(x)));
                if (done) {
                    x.undo();
                }
                checks.holds("P13 " + kind, first.equals(Checks.portrait(x)));
                checks.holds("P13 the image stays", x.back(0) >= 0);
            }
        }
        SweptFloors x = wandered();
        x.type('D');
        x.undo();
        checks.due("P13 the text stays", x.count(5), 1);
    }
}
