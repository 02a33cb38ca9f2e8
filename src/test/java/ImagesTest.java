/** Promises 23 to 25: images and counts. */
public final class ImagesTest {
    private static final Checks checks = new Checks("ImagesTest");

    public static void main(String[] args) {
        refused();
        bothImages();
        imagesKeepAll();
        nothingElse();
        counts();
        checks.end();
    }

    private static void refused() {
        SweptFloors x = Checks.floorOf("D.;");
        int[] bad = {-1, 2, Integer.MAX_VALUE, Integer.MIN_VALUE};
        for (int image : bad) {
            checks.due("P23 keep(" + image + ")", x.keep(image), Checks.BAD);
            checks.due("P24 back(" + image + ")", x.back(image), Checks.BAD);
        }
        checks.due("P24 back(0)", x.back(0), Checks.STATE);
        checks.due("P24 back(1)", x.back(1), Checks.STATE);
        x.rotates(1);
        checks.due("P24 back(0)", x.back(0), Checks.STATE);
        checks.due("P24 refused: still to undo", x.count(6), 1);
        x.keep(1);
        checks.due("P24 back(0), the other was kept", x.back(0), Checks.STATE);
        checks.due("P24 back(1)", x.back(1), 0);
    }

    private static void bothImages() {
        SweptFloors x = Checks.floorOf("D..;");
        checks.due("P23 keep(0)", x.keep(0), 0);
        x.goes(1);
        checks.due("P23 keep(1)", x.keep(1), 1);
        x.goes(1);
        checks.due("P24 back(1)", x.back(1), 1);
        checks.due("P24 cell", x.robot(0), 1);
        checks.due("P24 nothing to undo", x.count(6), 0);
        checks.due("P24 undo()", x.undo(), Checks.STATE);
        checks.due("P24 back(0)", x.back(0), 0);
        checks.due("P24 knows(1)", x.knows(1), 0);
        checks.due("P24 back(1)", x.back(1), 1);
        checks.due("P24 knows(1)", x.knows(1), 1);
        x.goes(1);
        checks.due("P23 keep(1) again", x.keep(1), 2);
        x.goes(1);
        checks.due("P24 back(1), the later one", x.back(1), 2);
    }

    private static void imagesKeepAll() {
        for (int lost = 0; lost < 2; lost++) {
            SweptFloors x = Checks.floorOf("..d.;.D#!;..n.;");
            x.goes(3);
            x.powers(33, 7);
            x.moves(2);
            if (lost == 1) {
                x.carries(9, 1);
                x.scans();
            }
            x.keep(0);
            x.back(0);
            String before = Checks.portrait(x);
            x.powers(12, 3);
            x.moves(2);
            x.rotates(1);
            x.steps();
            x.carries(4, 2);
            x.steps();
            checks.due("P24 back(0)", x.back(0), x.robot(0));
            checks.holds("P24 all is as it was", before.equals(Checks.portrait(x)));
            x.rotates(1);
            x.steps();
            x.back(0);
            checks.holds("P24 and again", before.equals(Checks.portrait(x)));
        }
    }

    private static void nothingElse() {
        SweptFloors x = Checks.floorOf("D..;");
        x.rotates(1);
        x.type('D');
        x.keep(0);
        checks.due("P23 keep leaves what can be undone", x.count(6), 1);
        x.type(';');
        x.rotates(1);
        x.rotates(1);
        x.back(0);
        checks.due("P24 the text stays", x.count(5), 2);
        x.undo();
        checks.due("P24 heading", x.robot(1), 1);
        checks.due("P4 floor()", x.floor(), 1);
        checks.due("P24 images are gone", x.back(0), Checks.STATE);
    }

    private static void counts() {
        SweptFloors x = Checks.floorOf("...;.#D;");
        x.powers(17, 9);
        x.rotates(1);
        x.type('x');
        x.type('y');
        x.type('z');
        int[] counts = {3, 2, 5, 17, 9, 3, 2};
        for (int what = 0; what < counts.length; what++) {
            checks.due("P25 count(" + what + ")", x.count(what), counts[what]);
        }
        int[] bad = {-1, 7, Integer.MAX_VALUE, Integer.MIN_VALUE};
        for (int what : bad) {
            checks.due("P25 count(" + what + ")", x.count(what), Checks.BAD);
        }
    }
}
