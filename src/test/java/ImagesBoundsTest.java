/** The boundaries of IMAGES and of promises 23 to 25, a test for each sentence that names one. */
public final class ImagesBoundsTest {
    private static final Checks checks = new Checks("ImagesBoundsTest");
    private static final int BAD = Checks.BAD, STATE = Checks.STATE;
    private static final int[] NO_IMAGES = {Integer.MIN_VALUE, -9, -2, -1, 2, 3, 64, Integer.MAX_VALUE};

    public static void main(String[] args) {
        imagesKeepAll();
        imagesKeepNothingElse();
        behindBack();
        imagesAreGone();
        keep();
        back();
        count();
        countsAtTheirEnds();
        checks.end();
    }

    private static SweptFloors wandered(boolean lost) {
        SweptFloors x = Checks.floorOf("..d.;.D#!;..n.;");
        x.goes(3);
        x.powers(33, 7);
        x.moves(2);
        if (lost) {
            x.carries(9, 1);
            x.steps();
        }
        return x;
    }

    private static void imagesKeepAll() {
        checks.sentence("IMAGES 0, 1 keep all that 1 to 3 tell but THE TEXT");
        for (int image = 0; image <= 1; image++) {
            for (int i = 0; i < 2; i++) {
                SweptFloors x = wandered(i == 1);
                x.keep(image);
                x.back(image);
                String before = Checks.portrait(x);
                x.powers(12, 3);
                x.moves(2);
                x.rotates(1);
                x.steps();
                x.carries(4, 2);
                x.steps();
                x.back(image);
                checks.holds("all is as it was", before.equals(Checks.portrait(x)));
                // what is done behind back() is none of the image
                x.rotates(1);
                x.carries(4, 2);
                x.back(image);
                checks.due("BRIM", x.count(3), 33);
                checks.due("RATE", x.count(4), 7);
                checks.due("the door", x.cell(2), 5);
                checks.due("LOST", x.robot(3), i);
            }
        }
        SweptFloors x = new SweptFloors();
        Checks.tell(x, "D");
        x.keep(0);
        Checks.tell(x, ";");
        x.back(0);
        checks.due("THE TEXT is none of it", x.count(5), 2);
        x.clear();
        x.back(0);
        checks.due("THE TEXT is none of it", x.count(5), 0);
    }

    private static void imagesKeepNothingElse() {
        checks.sentence("nothing else.");
        // what could be undone as it was kept is no part of it, nor is the other image
        SweptFloors x = new SweptFloors();
        x.rotates(1);
        x.rotates(1);
        x.keep(0);
        checks.due("keep() leaves what can be undone", x.count(6), 2);
        x.back(0);
        checks.due("back() brings none of it", x.count(6), 0);
        SweptFloors y = new SweptFloors();
        y.keep(0);
        y.rotates(1);
        y.keep(1);
        y.rotates(1);
        y.back(0);
        checks.due("image 0", y.robot(1), 0);
        y.back(1);
        checks.due("image 1 stays", y.robot(1), 1);
        y.back(0);
        checks.due("image 0 stays", y.robot(1), 0);
        y.rotates(3);
        y.keep(0);
        y.undo();
        y.back(0);
        checks.due("undo() leaves the image", y.robot(1), 3);
    }

    private static void behindBack() {
        checks.sentence("Behind back() nothing can be UNDONE.");
        for (int done = 0; done <= 8; done++) {
            SweptFloors x = new SweptFloors();
            x.keep(1);
            for (int i = 0; i < done; i++) {
                x.rotates(1);
            }
            checks.due("back(1)", x.back(1), 0);
            checks.due("to undo", x.count(6), 0);
            checks.due("undo()", x.undo(), STATE);
            x.rotates(1);
            checks.due("to undo behind one more", x.count(6), 1);
            checks.due("undo()", x.undo(), 0);
            checks.due("HEADING", x.robot(1), 0);
            checks.due("undo()", x.undo(), STATE);
        }
        SweptFloors refused = new SweptFloors();
        refused.rotates(1);
        checks.due("back(0), refused", refused.back(0), STATE);
        checks.due("back(2), refused", refused.back(2), BAD);
        checks.due("to undo all the same", refused.count(6), 1);
        checks.due("undo()", refused.undo(), 0);
    }

    private static void imagesAreGone() {
        checks.sentence("IMAGES are gone");
        for (int image = 0; image <= 1; image++) {
            SweptFloors x = Checks.floorOf("D.;");
            x.keep(image);
            Checks.tell(x, "D.");
            checks.due("floor() with a fault", x.floor(), -12);
            checks.due("the image stays", x.back(image), 0);
            x.type(';');
            checks.due("floor()", x.floor(), 2);
            checks.due("the image is gone", x.back(image), STATE);
            x.keep(image);
            checks.due("kept again", x.back(image), 0);
            checks.due("not the other one", x.back(1 - image), STATE);
        }
    }

    private static void keep() {
        checks.sentence("An IMAGE is kept: the CELL where THE ROBOT is. BAD.");
        SweptFloors x = Checks.floorOf("D..;");
        checks.due("keep(0)", x.keep(0), 0);
        Checks.walk(x, 1);
        checks.due("keep(1)", x.keep(1), 1);
        Checks.walk(x, 1);
        checks.due("keep(0) again", x.keep(0), 2);
        for (int image : NO_IMAGES) {
            checks.due("keep(" + image + ")", x.keep(image), BAD);
            checks.refused("keep(" + image + ")", () -> wandered(false), y -> y.keep(image),
                wandered(false).keep(image), BAD);
        }
        checks.due("back(1)", x.back(1), 1);
        checks.due("back(0), the later one", x.back(0), 2);
        x.carries(1, 0);
        checks.due("keep(0), lost", x.keep(0), 1);
        SweptFloors last = Checks.floorOf(Checks.plainFloor(6, 6, 35));
        checks.due("keep(0) in the last cell", last.keep(0), 35);
    }

    private static void back() {
        checks.sentence("All of that becomes as an IMAGE has it: the CELL where THE ROBOT is. BAD; STATE: none was kept.");
        SweptFloors x = Checks.floorOf("D..;");
        checks.due("back(0), none kept", x.back(0), STATE);
        checks.due("back(1), none kept", x.back(1), STATE);
        for (int image : NO_IMAGES) {
            checks.refused("back(" + image + "), none kept", () -> wandered(false), y -> y.back(image),
                wandered(false).back(image), BAD);
        }
        Checks.walk(x, 1);
        x.keep(0);
        checks.due("back(1), the other kept", x.back(1), STATE);
        checks.due("back(0)", x.back(0), 1);
        checks.due("back(0) again", x.back(0), 1);
        x.keep(1);
        for (int image : NO_IMAGES) {
            checks.due("back(" + image + "), both kept", x.back(image), BAD);
        }
        Checks.walk(x, 1);
        checks.due("the cell", x.robot(0), 2);
        checks.due("back(1)", x.back(1), 1);
        checks.due("the cell", x.robot(0), 1);
    }

    private static void count() {
        checks.sentence("0 WIDTH, 1 HEIGHT, 2 the DOCK, 3 BRIM, 4 RATE, 5 letters of THE TEXT, 6 how many may be UNDONE. BAD.");
        SweptFloors x = Checks.floorOf("...;.#D;");
        x.powers(17, 9);
        x.rotates(1);
        Checks.tell(x, "xyz");
        int[] counts = {3, 2, 5, 17, 9, 3, 2};
        for (int what = 0; what < counts.length; what++) {
            checks.due("count(" + what + ")", x.count(what), counts[what]);
        }
        int[] bad = {Integer.MIN_VALUE, -9, -2, -1, 7, 8, 64, Integer.MAX_VALUE};
        for (int what : bad) {
            checks.due("count(" + what + ")", x.count(what), BAD);
        }
        x.carries(0, 0);
        for (int what = 0; what < 6; what++) {
            checks.due("count(" + what + "), lost", x.count(what), counts[what]);
        }
        checks.due("count(6), lost", x.count(6), 3);
    }

    private static void countsAtTheirEnds() {
        checks.sentence("5 letters of THE TEXT, 6 how many may be UNDONE");
        SweptFloors x = Checks.floorOf(Checks.plainFloor(6, 6, 35));
        checks.due("WIDTH", x.count(0), 6);
        checks.due("HEIGHT", x.count(1), 6);
        checks.due("the DOCK", x.count(2), 35);
        x.powers(99, 20);
        checks.due("BRIM", x.count(3), 99);
        checks.due("RATE", x.count(4), 20);
        for (int letters = 0; letters <= 62; letters++) {
            checks.due("letters", x.count(5), Math.min(letters, 60));
            x.type(' ');
        }
        for (int done = 1; done <= 9; done++) {
            checks.due("to undo", x.count(6), Math.min(done, 6));
            x.rotates(1);
        }
        for (int left = 5; left >= 0; left--) {
            x.undo();
            checks.due("to undo", x.count(6), left);
        }
        x.undo();
        checks.due("to undo, none", x.count(6), 0);
        x.clear();
        checks.due("letters, none", x.count(5), 0);
        x.clear();
        checks.due("letters, none", x.count(5), 0);
    }
}
