/** Promises 1 to 5: a new object, the text, the floor. */
public final class FloorTest {
    private static final Checks checks = new Checks("FloorTest");

    public static void main(String[] args) {
        newObject();
        typing();
        clearing();
        floorsThatStand();
        faults();
        faultChangesNothing();
        newFloorIsAsAtFirst();
        sameFloorAgainIsAsAtFirst();
        aTextBehindAFault();
        kindsOfCells();
        checks.end();
    }

    private static void newObject() {
        SweptFloors x = new SweptFloors();
        int[] counts = {1, 1, 0, 40, 5, 0, 0};
        for (int what = 0; what < counts.length; what++) {
            checks.due("P1 count(" + what + ")", x.count(what), counts[what]);
        }
        int[] robot = {0, 0, 40, 0, 1, 0};
        for (int what = 0; what < robot.length; what++) {
            checks.due("P1 robot(" + what + ")", x.robot(what), robot[what]);
        }
        checks.due("P1 cell(0)", x.cell(0), 6);
        checks.due("P1 cell(1)", x.cell(1), Checks.BAD);
        checks.due("P1 knows(0)", x.knows(0), 1);
        checks.due("P1 home(0)", x.home(0), 0);
        checks.due("P1 place(-1)", x.place(-1), 1);
        checks.due("P1 place(0)", x.place(0), 0);
        checks.due("P1 target(0)", x.target(0), Checks.NONE);
        checks.due("P1 when()", x.when(), 0);
        checks.due("P1 undo()", x.undo(), Checks.STATE);
        checks.due("P1 back(0)", x.back(0), Checks.STATE);
        checks.due("P1 back(1)", x.back(1), Checks.STATE);
        checks.due("P1 clear()", x.clear(), 0);
    }

    private static void typing() {
        SweptFloors x = new SweptFloors();
        checks.due("P2 type(-1)", x.type(-1), Checks.BAD);
        checks.due("P2 type(256)", x.type(256), Checks.BAD);
        checks.due("P2 type(least)", x.type(Integer.MIN_VALUE), Checks.BAD);
        checks.due("P2 type(most)", x.type(Integer.MAX_VALUE), Checks.BAD);
        checks.due("P2 type(0)", x.type(0), 1);
        checks.due("P2 type(255)", x.type(255), 2);
        for (int i = 3; i <= 60; i++) {
            checks.due("P2 type, the " + i + "th", x.type(32), i);
        }
        checks.due("P2 type, full", x.type(32), Checks.FULL);
        checks.due("P2 type, full and bad", x.type(256), Checks.BAD);
        checks.due("P2 letters", x.count(5), 60);
        checks.due("P2 floor()", x.floor(), -10);
    }

    private static void clearing() {
        SweptFloors x = new SweptFloors();
        Checks.tell(x, "D.. x");
        checks.due("P3 clear()", x.clear(), 5);
        checks.due("P3 letters", x.count(5), 0);
        checks.due("P3 clear() again", x.clear(), 0);
        checks.due("P3 type", x.type('D'), 1);
        checks.due("P3 type", x.type(';'), 2);
        checks.due("P3 floor()", x.floor(), 1);
        for (int i = 0; i < 60; i++) {
            x.type(' ');
        }
        checks.due("P3 clear(), full", x.clear(), 60);
        checks.due("P3 type", x.type('D'), 1);
    }

    private static void floorAnswers(String text, int want) {
        SweptFloors x = new SweptFloors();
        Checks.tell(x, text);
        checks.due("P4 floor() of '" + text + "'", x.floor(), want);
    }

    private static void floorsThatStand() {
        floorAnswers("D;", 1);
        floorAnswers("......;......;......;......;......;.....D;", 36);
        floorAnswers("D.....;", 6);
        floorAnswers("D;.;.;.;.;.;", 6);
        floorAnswers("  D . # ; ! n d ;  ", 6);
        floorAnswers("D.;..;", 4);
        SweptFloors x = Checks.floorOf(".#.;..D;");
        checks.due("P4 width", x.count(0), 3);
        checks.due("P4 height", x.count(1), 2);
        checks.due("P4 dock", x.count(2), 5);
        checks.due("P4 robot", x.robot(0), 5);
    }

    private static void faults() {
        floorAnswers("", -10);
        floorAnswers("   ", -13);
        floorAnswers("D", -11);
        floorAnswers("D ", -12);
        floorAnswers(";", -10);
        floorAnswers("D;;", -12);
        floorAnswers("x", -10);
        floorAnswers(" D x;", -13);
        floorAnswers("D\t;", -11);
        floorAnswers("D" + (char) 0 + ";", -11);
        floorAnswers("D" + (char) 233 + ";", -11);
        floorAnswers("N;", -10);
        floorAnswers("......;", -17);
        floorAnswers("d;", -12);
        floorAnswers(".......", -16);
        floorAnswers("D......;", -16);
        floorAnswers("D.;...", -15);
        floorAnswers("D.;.;", -14);
        floorAnswers("D.;..;. ;", -18);
        floorAnswers("DD;", -11);
        floorAnswers("D.;.D;", -14);
        floorAnswers("D;.;.;.;.;.;.", -22);
        floorAnswers("D;.;.;.;.;.;;", -22);
        floorAnswers("D;.;.;.;.;.; ", 6);
        floorAnswers("D;.;.;.;.;.; .", -23);
        floorAnswers("D;.", -13);
        floorAnswers("D;. ", -14);
        floorAnswers("..;..", -15);
        floorAnswers("DDx;;", -11);
        floorAnswers("......x", -16);
        floorAnswers(".;..D", -13);
    }

    private static void faultChangesNothing() {
        SweptFloors x = Checks.floorOf("D..;.d.;");
        x.powers(30, 3);
        x.goes(4);
        x.keep(0);
        Checks.tell(x, "D.;.;");
        String before = Checks.portrait(x);
        checks.due("P4 floor()", x.floor(), -14);
        checks.holds("P4 a fault changes nothing", before.equals(Checks.portrait(x)));
        checks.due("P4 letters stay", x.count(5), 5);
        checks.due("P4 floor() again", x.floor(), -14);
        checks.due("P4 the image stays", x.back(0), x.robot(0));
    }

    private static void newFloorIsAsAtFirst() {
        SweptFloors x = Checks.floorOf("D..;.d.;");
        x.powers(30, 3);
        x.goes(4);
        x.moves(4);
        x.keep(0);
        x.keep(1);
        x.carries(2, 3);
        Checks.tell(x, ".d;D.;");
        checks.due("P4 floor()", x.floor(), 4);
        checks.holds("P4 all is as at first",
            Checks.portrait(x).equals(Checks.portrait(Checks.floorOf(".d;D.;"))));
        checks.due("P4 letters", x.count(5), 0);
        checks.due("P4 undo()", x.undo(), Checks.STATE);
        checks.due("P4 back(0)", x.back(0), Checks.STATE);
        checks.due("P4 back(1)", x.back(1), Checks.STATE);
    }

    private static void sameFloorAgainIsAsAtFirst() {
        String text = "Dd.#;..#.;";
        SweptFloors x = Checks.floorOf(text);
        x.goes(30);
        x.rotates(2);
        x.moves(1);
        checks.holds("P4 it knows walls", x.robot(5) > 0);
        checks.due("P4 the door is shut", x.cell(1), 5);
        Checks.tell(x, text);
        checks.due("P4 floor()", x.floor(), 8);
        checks.holds("P4 all is as at first", Checks.portrait(x).equals(Checks.portrait(Checks.floorOf(text))));
    }

    private static void aTextBehindAFault() {
        SweptFloors x = new SweptFloors();
        Checks.tell(x, "..;D.;..;.");
        checks.due("P4 floor(), not ended", x.floor(), -20);
        x.clear();
        Checks.tell(x, "D;");
        checks.due("P4 floor()", x.floor(), 1);
        Checks.tell(x, "..;D.;.");
        checks.due("P4 floor(), not ended", x.floor(), -17);
        Checks.tell(x, " .; ");
        checks.due("P4 floor(), ended now", x.floor(), 6);
        checks.due("P4 width", x.count(0), 2);
    }

    private static void kindsOfCells() {
        SweptFloors x = Checks.floorOf("D.#!nd;");
        int[] kinds = {6, 0, 1, 2, 3, 4};
        for (int cell = 0; cell < kinds.length; cell++) {
            checks.due("P5 cell(" + cell + ")", x.cell(cell), kinds[cell]);
        }
        x.moves(5);
        checks.due("P5 cell(5), shut", x.cell(5), 5);
        x.moves(5);
        checks.due("P5 cell(5), open", x.cell(5), 4);
        checks.due("P5 cell(-1)", x.cell(-1), Checks.BAD);
        checks.due("P5 cell(6)", x.cell(6), Checks.BAD);
        checks.due("P5 cell(64)", x.cell(64), Checks.BAD);
        checks.due("P5 cell(least)", x.cell(Integer.MIN_VALUE), Checks.BAD);
        checks.due("P5 cell(most)", x.cell(Integer.MAX_VALUE), Checks.BAD);
    }
}
