/** The boundaries of '1 THE FLOOR' and of promises 1 to 5, a test for each sentence that names one. */
public final class FloorBoundsTest {
    private static final Checks checks = new Checks("FloorBoundsTest");
    private static final String SIGNS = ".#!ndD";
    private static final String SIGNS_BUT_DOCK = ".#!nd";
    private static final int[] WILD = {Integer.MIN_VALUE, Integer.MIN_VALUE + 1, -257, -256, -2, -1};
    private static final int[] WILD_ABOVE = {256, 257, 511, 512, 1 << 16, Integer.MAX_VALUE - 1, Integer.MAX_VALUE};

    public static void main(String[] args) {
        lastCall();
        constants();
        widthAndHeight();
        numbers();
        hands();
        justOneDock();
        doorIsOpenAtFirst();
        sixtyLetters();
        blanks();
        rows();
        signs();
        faultIsTheFirst();
        faultNoSign();
        faultBeyondTheSixth();
        faultBeyondTheFirstRow();
        faultSecondDock();
        faultEndBehindNoSign();
        faultFewerSigns();
        faultBehindSixRows();
        faultAtTheEnd();
        free();
        brimAndRateAtFirst();
        newObject();
        type();
        clear();
        floorCells();
        floorFaultChangesNothing();
        floorRead();
        cell();
        checks.end();
    }

    private static SweptFloors told(String text) {
        SweptFloors x = new SweptFloors();
        Checks.tell(x, text);
        return x;
    }

    private static void stands(String text, int cells) {
        SweptFloors x = told(text);
        checks.due("floor() of '" + text + "'", x.floor(), cells);
        checks.due("letters behind '" + text + "'", x.count(5), 0);
    }

    private static void fault(String text, int place) {
        SweptFloors x = told(text);
        checks.due("floor() of '" + text + "'", x.floor(), -10 - place);
        checks.due("letters behind '" + text + "'", x.count(5), text.length());
        checks.due("floor() again of '" + text + "'", x.floor(), -10 - place);
    }

    private static void lastCall() {
        checks.sentence("An object is used for at most 512 calls after it has been made");
        SweptFloors x = new SweptFloors();
        for (int call = 1; call <= 511; call++) {
            checks.due("call " + call, x.rotates(1), call % 4);
        }
        checks.due("call 512", x.rotates(1), 0);
        SweptFloors y = new SweptFloors();
        for (int call = 1; call <= 509; call++) {
            checks.due("call " + call, y.clear(), 0);
        }
        y.type('D');
        y.type(';');
        checks.due("call 512", y.floor(), 1);
    }

    private static void constants() {
        checks.sentence("public static final int BAD = -1, STATE = -2, FULL = -3, NONE = -9;");
        checks.due("BAD", SweptFloors.BAD, -1);
        checks.due("STATE", SweptFloors.STATE, -2);
        checks.due("FULL", SweptFloors.FULL, -3);
        checks.due("NONE", SweptFloors.NONE, -9);
    }

    private static void widthAndHeight() {
        checks.sentence("WIDTH, HEIGHT (1 .. 6 each; 1 at first) CELLS");
        checks.due("WIDTH at first", new SweptFloors().count(0), 1);
        checks.due("HEIGHT at first", new SweptFloors().count(1), 1);
        for (int width = 1; width <= 7; width++) {
            for (int height = 1; height <= 7; height++) {
                String text = Checks.plainFloor(width, height, 0);
                SweptFloors x = told(text);
                if (width <= 6 && height <= 6) {
                    checks.due("floor() of " + width + " by " + height, x.floor(), width * height);
                    checks.due("WIDTH", x.count(0), width);
                    checks.due("HEIGHT", x.count(1), height);
                } else {
                    int place = width == 7 ? 6 : 6 * (width + 1);
                    checks.due("floor() of " + width + " by " + height, x.floor(), -10 - place);
                    checks.due("WIDTH", x.count(0), 1);
                    checks.due("HEIGHT", x.count(1), 1);
                }
            }
        }
    }

    private static void numbers() {
        checks.sentence("numbered y times WIDTH and x; at first one CELL, the DOCK");
        checks.due("cell(0) at first", new SweptFloors().cell(0), 6);
        checks.due("cell(1) at first", new SweptFloors().cell(1), Checks.BAD);
        for (int width = 1; width <= 6; width++) {
            for (int height = 1; height <= 6; height++) {
                int last = width * height - 1;
                int[] corners = {0, width - 1, last - (width - 1), last};
                for (int dock : corners) {
                    SweptFloors x = Checks.floorOf(Checks.plainFloor(width, height, dock));
                    checks.due("the DOCK of " + width + " by " + height, x.count(2), dock);
                    checks.due("cell(" + dock + ")", x.cell(dock), 6);
                    checks.due("the robot", x.robot(0), dock);
                }
            }
        }
    }

    /** From every cell of every floor to every hand: what lies beyond an edge is no cell of the next row. */
    private static void hands() {
        checks.sentence("HANDS: 0 up (y less 1), 1 right (x and 1), 2 down, 3 left.");
        int[] dx = {0, 1, 0, -1};
        int[] dy = {-1, 0, 1, 0};
        for (int width = 1; width <= 6; width++) {
            for (int height = 1; height <= 6; height++) {
                for (int from = 0; from < width * height; from++) {
                    for (int hand = 0; hand < 4; hand++) {
                        SweptFloors x = Checks.floorOf(Checks.plainFloor(width, height, from));
                        int column = from % width + dx[hand];
                        int row = from / width + dy[hand];
                        boolean beyond = column < 0 || column >= width || row < 0 || row >= height;
                        String where = width + " by " + height + " from " + from + " to " + hand;
                        checks.due("a step, " + where, Checks.walk(x, hand), beyond ? 1 : 0);
                        checks.due("the cell, " + where, x.robot(0), beyond ? from : row * width + column);
                        checks.due("not free, " + where, x.robot(5), 0);
                    }
                }
            }
        }
    }

    private static void justOneDock() {
        checks.sentence("A CELL is PLAIN, a WALL, a CLIFF, BARRED, a DOOR, or the DOCK (just one).");
        fault(".#!nd;", 6);
        stands(".#!ndD;", 6);
        fault("D#!ndD;", 5);
        for (int dock = 0; dock < 36; dock++) {
            SweptFloors x = Checks.floorOf(Checks.plainFloor(6, 6, dock));
            int docks = 0;
            for (int cell = 0; cell < 36; cell++) {
                docks += x.cell(cell) == 6 ? 1 : 0;
            }
            checks.due("docks", docks, 1);
            checks.due("the DOCK", x.count(2), dock);
        }
    }

    private static void doorIsOpenAtFirst() {
        checks.sentence("A DOOR is shut or open.");
        SweptFloors x = Checks.floorOf("Dd;");
        checks.due("as told", x.cell(1), 4);
        x.moves(1);
        checks.due("shut", x.cell(1), 5);
        x.moves(1);
        checks.due("open", x.cell(1), 4);
    }

    private static void sixtyLetters() {
        checks.sentence("It is a text (60 letters at most), told letter by letter");
        String full = Checks.plainFloor(6, 6, 35) + Checks.times(18, " ");
        SweptFloors x = told(full);
        checks.due("letters", x.count(5), 60);
        checks.due("one more", x.type(' '), Checks.FULL);
        checks.due("letters", x.count(5), 60);
        checks.due("floor() of 60", x.floor(), 36);
        stands(Checks.times(58, " ") + "D;", 1);
        // the letter that finds no room is none of the text: the row is not ended
        fault(Checks.times(59, " ") + "D", 60);
        SweptFloors y = told(Checks.times(59, " ") + "D;");
        checks.due("floor(), the ; was refused", y.floor(), -70);
    }

    private static void blanks() {
        checks.sentence("blanks (32), any number, anywhere");
        stands("D.;.#;", 4);
        String[] parts = {"", "D", ".", ";", ".", "#", ";"};
        for (int n = 0; n <= 9; n++) {
            for (int at = 0; at <= parts.length; at++) {
                StringBuilder text = new StringBuilder();
                for (int i = 0; i < parts.length; i++) {
                    text.append(i == at ? Checks.times(n, " ") : "").append(parts[i]);
                }
                text.append(at == parts.length ? Checks.times(n, " ") : "");
                stands(text.toString(), 4);
            }
        }
        stands(" D . ; . # ; ", 4);
        stands(Checks.times(54, " ") + "D.;.#;", 4);
        stands("D.;.#;" + Checks.times(54, " "), 4);
        stands("D." + Checks.times(54, " ") + ";.#;", 4);
        int[] noBlanks = {0, 9, 10, 11, 12, 13, 31, 127, 160, 255};
        for (int letter : noBlanks) {
            fault("D" + (char) letter + ";", 1);
        }
    }

    private static void rows() {
        checks.sentence("ROWS (1 to 6), from the top, each of 1 to 6 signs, as many in each, ended by ;");
        SweptFloors x = Checks.floorOf("#!;.D;nd;");
        int[] kinds = {1, 2, 0, 6, 3, 4};
        for (int cell = 0; cell < kinds.length; cell++) {
            checks.due("cell(" + cell + ")", x.cell(cell), kinds[cell]);
        }
        fault("", 0);
        stands("D;", 1);
        stands("D.....;", 6);
        fault("D......;", 6);
        stands("D;.;.;.;.;.;", 6);
        fault("D;.;.;.;.;.;.;", 12);
        fault("D;.;.;.;.;.", 11);
        fault("D.;..;.;", 7);
        fault("D.;..;...;", 8);
    }

    private static void signs() {
        checks.sentence("SIGNS: . PLAIN, # WALL, ! CLIFF, n BARRED, d DOOR (open), D DOCK.");
        int[] kinds = {0, 1, 2, 3, 4};
        for (int i = 0; i < kinds.length; i++) {
            checks.due("D" + SIGNS.charAt(i), Checks.floorOf("D" + SIGNS.charAt(i) + ";").cell(1), kinds[i]);
            checks.due(SIGNS.charAt(i) + "D", Checks.floorOf(SIGNS.charAt(i) + "D;").cell(0), kinds[i]);
        }
        checks.due("D", Checks.floorOf(".D;").cell(1), 6);
    }

    private static void faultIsTheFirst() {
        checks.sentence("FAULT: the place of the first letter (no blank) that can't stand there");
        fault("x;", 0);
        fault(" x;", 1);
        fault("D x;", 2);
        fault("xyz", 0);
        fault("DDx;;", 1);
        fault("D.;.;x", 4);
        fault(";;", 0);
        fault(".x", 1);
        fault("......xD;", 6);
        fault(Checks.times(59, " ") + "x", 59);
        fault("D;" + Checks.times(57, " ") + "x", 59);
        fault("D;" + Checks.times(57, " ") + ";", 59);
    }

    private static void faultNoSign() {
        checks.sentence("one that is no SIGN nor ;");
        for (int letter = 0; letter <= 255; letter++) {
            char c = (char) letter;
            boolean sign = SIGNS_BUT_DOCK.indexOf(c) >= 0;
            if (c == ' ') {
                stands(c + "D;", 1);
                stands("D" + c + ";", 1);
                stands("D;" + c, 1);
            } else if (sign) {
                stands(c + "D;", 2);
                stands("D" + c + ";", 2);
                fault("D;" + c, 3);
            } else {
                fault(c + "D;", c == 'D' ? 1 : 0);
                fault("D" + c + ";", c == ';' ? 2 : 1);
                fault("D;" + c, 2);
            }
        }
    }

    private static void faultBeyondTheSixth() {
        checks.sentence("a SIGN beyond the sixth");
        for (char sign : SIGNS.toCharArray()) {
            fault("......" + sign + ";", 6);
            fault("......  " + sign, 8);
            fault(".....D;......" + sign + ";", 13);
        }
        for (char sign : SIGNS_BUT_DOCK.toCharArray()) {
            stands("D...." + sign + ";", 6);
        }
        stands(".....D;", 6);
    }

    private static void faultBeyondTheFirstRow() {
        checks.sentence("or beyond the length of the first ROW");
        for (int width = 1; width <= 6; width++) {
            for (int rows = 1; rows <= 5; rows++) {
                String whole = Checks.plainFloor(width, rows, 0);
                String row = Checks.times(width, ".");
                stands(whole + row + ";", width * (rows + 1));
                for (char sign : SIGNS_BUT_DOCK.toCharArray()) {
                    fault(whole + row + sign, rows * (width + 1) + width);
                }
            }
        }
    }

    private static void faultSecondDock() {
        checks.sentence("a second D");
        fault("DD;", 1);
        fault("D D;", 2);
        fault("D;D;", 2);
        fault("D.;.D;", 4);
        fault("DDD;", 1);
        fault("D.....;......;......;......;......;.....D;", 40);
        stands("Dd;", 2);
        stands("dD;", 2);
        // what a text told that was not read counts no more
        SweptFloors x = told("D.;D");
        checks.due("floor()", x.floor(), -13);
        x.clear();
        Checks.tell(x, ".D;");
        checks.due("floor()", x.floor(), 2);
        Checks.tell(x, "D;");
        checks.due("floor(), behind a floor with a D", x.floor(), 1);
    }

    private static void faultEndBehindNoSign() {
        checks.sentence("a ; behind no SIGN");
        fault(";", 0);
        fault("  ;", 2);
        fault("D;;", 2);
        fault("D; ;", 3);
        fault("D.;;", 3);
        fault("D;.;.;.;.;;", 10);
        fault("D;.;.;.;.;.;;", 12);
        fault("D;.;.;.;.;.; ;", 13);
    }

    private static void faultFewerSigns() {
        checks.sentence("or of a ROW with fewer SIGNS than the first one");
        for (int width = 2; width <= 6; width++) {
            for (int rows = 1; rows <= 5; rows++) {
                for (int signs = 1; signs <= width; signs++) {
                    String text = Checks.plainFloor(width, rows, 0) + Checks.times(signs, ".") + ";";
                    if (signs == width) {
                        stands(text, width * (rows + 1));
                    } else {
                        fault(text, text.length() - 1);
                    }
                }
            }
        }
        // the blanks in a row are no signs
        fault("D.;. ;", 5);
        fault("D..;. .;", 7);
    }

    private static void faultBehindSixRows() {
        checks.sentence("a SIGN behind six ROWS");
        for (int width = 1; width <= 6; width++) {
            for (char sign : SIGNS.toCharArray()) {
                fault(Checks.plainFloor(width, 6, 0) + sign, 6 * (width + 1));
                fault(Checks.plainFloor(width, 6, 0) + "  " + sign, 6 * (width + 1) + 2);
            }
            stands(Checks.plainFloor(width, 6, 0) + "  ", 6 * width);
            stands(Checks.plainFloor(width, 5, 0) + Checks.times(width, ".") + ";", 6 * width);
        }
        // no D at all, and yet the sign is told, not the length
        fault(".;.;.;.;.;.;D", 12);
    }

    private static void faultAtTheEnd() {
        checks.sentence("if there is none such: the text's length, if the last ROW is not ended, or there is no ROW, or no D.");
        fault("D", 1);
        fault("D ", 2);
        fault("D.;.", 4);
        fault("D.;..", 5);
        fault("D.;.. ", 6);
        fault(Checks.plainFloor(6, 6, 0).substring(0, 41), 41);
        fault("", 0);
        fault(" ", 1);
        fault(Checks.times(60, " "), 60);
        fault(".;", 2);
        fault("d;", 2);
        fault(".; ", 3);
        fault(".", 1);
        fault(Checks.plainFloor(6, 6, 36), 42);
        fault(Checks.plainFloor(6, 6, 36) + Checks.times(18, " "), 60);
    }

    private static void free() {
        checks.sentence("A CELL is FREE, if it is PLAIN, the DOCK, or an open DOOR.");
        for (int kind = 0; kind <= 6; kind++) {
            SweptFloors x = Checks.floorOf("D.#!nd;");
            int cell = kind == 6 ? 0 : Math.min(kind + 1, 5);
            if (kind == 5) {
                x.moves(5);
            }
            checks.due("kind", x.cell(cell), kind);
            boolean free = kind == 0 || kind == 4 || kind == 6;
            checks.due("LANES of kind " + kind, x.lane(-1, 0), kind == 5 ? 1 : 2);
            checks.due("carries of kind " + kind, x.carries(cell, 0), free ? 20 : Checks.BAD);
        }
    }

    private static void brimAndRateAtFirst() {
        checks.sentence("BRIM (1 .. 99; 40 at first), RATE (1 .. 20; 5 at first).");
        checks.due("BRIM", new SweptFloors().count(3), 40);
        checks.due("RATE", new SweptFloors().count(4), 5);
        checks.due("powers(1, 1)", new SweptFloors().powers(1, 1), 1);
        checks.due("powers(99, 20)", new SweptFloors().powers(99, 20), 40);
        checks.due("powers(0, 5)", new SweptFloors().powers(0, 5), Checks.BAD);
        checks.due("powers(100, 5)", new SweptFloors().powers(100, 5), Checks.BAD);
        checks.due("powers(40, 0)", new SweptFloors().powers(40, 0), Checks.BAD);
        checks.due("powers(40, 21)", new SweptFloors().powers(40, 21), Checks.BAD);
    }

    private static void newObject() {
        checks.sentence("`SweptFloors()`: One CELL, the DOCK; all as at first.");
        checks.holds("as the floor 'D;'", Checks.portrait(new SweptFloors()).equals(Checks.portrait(Checks.floorOf("D;"))));
        SweptFloors x = new SweptFloors();
        int[] counts = {1, 1, 0, 40, 5, 0, 0};
        for (int what = 0; what < counts.length; what++) {
            checks.due("count(" + what + ")", x.count(what), counts[what]);
        }
        int[] robot = {0, 0, 40, 0, 1, 0};
        for (int what = 0; what < robot.length; what++) {
            checks.due("robot(" + what + ")", x.robot(what), robot[what]);
        }
        checks.due("undo()", x.undo(), Checks.STATE);
        checks.due("back(0)", x.back(0), Checks.STATE);
        checks.due("back(1)", x.back(1), Checks.STATE);
        checks.due("clear()", x.clear(), 0);
        // one object's calls are none of another's
        SweptFloors y = Checks.floorOf("D..;");
        y.powers(9, 9);
        y.keep(0);
        checks.due("count(0) of another", x.count(0), 1);
        checks.due("back(0) of another", x.back(0), Checks.STATE);
        checks.due("BRIM of another", x.count(3), 40);
    }

    private static void type() {
        checks.sentence("A letter (0 .. 255) comes to THE TEXT: how many it has. BAD; FULL: 60.");
        for (int letter = 0; letter <= 255; letter++) {
            checks.due("type(" + letter + ")", new SweptFloors().type(letter), 1);
        }
        SweptFloors x = new SweptFloors();
        for (int letters = 0; letters <= 60; letters++) {
            for (int letter : WILD) {
                checks.due("type(" + letter + ") of " + letters, x.type(letter), Checks.BAD);
            }
            checks.due("letters", x.count(5), letters);
            checks.due("type(255) of " + letters, x.type(255), letters < 60 ? letters + 1 : Checks.FULL);
        }
        for (int letter : WILD_ABOVE) {
            checks.due("type(" + letter + ")", new SweptFloors().type(letter), Checks.BAD);
            checks.due("type(" + letter + "), full", x.type(letter), Checks.BAD);
        }
        checks.due("type(0), full", x.type(0), Checks.FULL);
        checks.due("letters, full", x.count(5), 60);
    }

    private static void clear() {
        checks.sentence("THE TEXT is empty: how many letters it had.");
        for (int letters = 0; letters <= 60; letters++) {
            SweptFloors x = told(Checks.times(letters, "x"));
            checks.due("clear() of " + letters, x.clear(), letters);
            checks.due("letters", x.count(5), 0);
            checks.due("clear() again", x.clear(), 0);
            checks.due("floor()", x.floor(), -10);
        }
        SweptFloors x = told(Checks.times(60, "x"));
        x.type('x');
        checks.due("clear() of 60 and a refused one", x.clear(), 60);
        for (int letters = 1; letters <= 60; letters++) {
            checks.due("type behind clear()", x.type(' '), letters);
        }
        checks.due("type, full again", x.type(' '), Checks.FULL);
    }

    private static void floorCells() {
        checks.sentence("THE TEXT tells THE FLOOR: how many CELLS.");
        stands("D;", 1);
        stands("D.;", 2);
        stands("D;.;", 2);
        stands(Checks.plainFloor(6, 6, 0), 36);
        stands(Checks.plainFloor(5, 6, 0), 30);
        stands(Checks.plainFloor(6, 5, 0), 30);
        SweptFloors x = told(Checks.plainFloor(6, 6, 0));
        checks.due("floor() of 36", x.floor(), 36);
        Checks.tell(x, "D;");
        checks.due("floor() of 1 behind it", x.floor(), 1);
        checks.due("floor() without a text", x.floor(), -10);
        Checks.tell(x, Checks.plainFloor(6, 6, 35));
        checks.due("floor() of 36 behind it", x.floor(), 36);
    }

    private static SweptFloors muchDone(String text) {
        SweptFloors x = Checks.floorOf("..d.;.D#!;..n.;");
        x.keep(1);
        Checks.walk(x, 1);
        x.goes(4);
        x.powers(30, 3);
        x.keep(0);
        x.moves(2);
        x.rotates(1);
        x.scans();
        x.carries(9, 2);
        x.steps();
        Checks.tell(x, text);
        return x;
    }

    private static void floorFaultChangesNothing() {
        checks.sentence("-10 less FAULT: nothing changes, THE TEXT stays.");
        String[] faulty = {"", "x", "D", ".;", "D.;.;", "DD;", "D;;", "D......;", "D.;...;", "D;.;.;.;.;.;.",
            "D;" + Checks.times(57, " ") + "x", Checks.times(60, " ")};
        int[] places = {0, 0, 1, 2, 4, 1, 2, 6, 5, 12, 59, 60};
        for (int i = 0; i < faulty.length; i++) {
            String text = faulty[i];
            checks.refused("floor() of '" + text + "'", () -> muchDone(text), SweptFloors::floor,
                muchDone(text).floor(), -10 - places[i]);
        }
        SweptFloors x = muchDone("D.;.");
        checks.due("floor(), not ended", x.floor(), -14);
        Checks.tell(x, ".;");
        checks.due("floor(), the text goes on", x.floor(), 4);
    }

    private static void floorRead() {
        checks.sentence("(A text without a FAULT read: THE FLOOR is that, THE ROBOT as at first, BRIM 40, RATE 5, IMAGES are gone, "
            + "nothing can be UNDONE, THE TEXT is empty.)");
        String[] texts = {"D;", ".d;D.;", "..d.;.D#!;..n.;", Checks.plainFloor(6, 6, 35)};
        for (String text : texts) {
            SweptFloors x = muchDone(text);
            checks.holds("a floor is read", x.floor() > 0);
            checks.holds("all as at first: " + text,
                Checks.portrait(x).equals(Checks.portrait(Checks.floorOf(text))));
            SweptFloors y = muchDone(text);
            y.floor();
            checks.due("BRIM", y.count(3), 40);
            checks.due("RATE", y.count(4), 5);
            checks.due("letters", y.count(5), 0);
            checks.due("to undo", y.count(6), 0);
            checks.due("undo()", y.undo(), Checks.STATE);
            checks.due("back(0)", y.back(0), Checks.STATE);
            checks.due("back(1)", y.back(1), Checks.STATE);
            checks.due("CHARGE", y.robot(2), 40);
            checks.due("LOST", y.robot(3), 0);
            checks.due("HEADING", y.robot(1), 0);
        }
        SweptFloors z = muchDone("..d.;.D#!;..n.;");
        checks.due("the door, shut", z.cell(2), 5);
        checks.due("it knows a wall", z.robot(5), 1);
        z.floor();
        checks.due("the door, open again", z.cell(2), 4);
        checks.due("knows(5)", z.knows(5), 1);
        checks.due("known 1", z.robot(4), 1);
        checks.due("known 2", z.robot(5), 0);
    }

    private static void cell() {
        checks.sentence("What a CELL is: 0 PLAIN, 1 WALL, 2 CLIFF, 3 BARRED, 4 an open DOOR, 5 a shut one, 6 the DOCK. BAD.");
        SweptFloors kinds = Checks.floorOf(".#!;ndd;..D;");
        kinds.moves(5);
        for (int kind = 0; kind <= 5; kind++) {
            checks.due("cell(" + kind + ")", kinds.cell(kind), kind);
        }
        checks.due("cell(8)", kinds.cell(8), 6);
        for (int width = 1; width <= 6; width++) {
            for (int height = 1; height <= 6; height++) {
                SweptFloors x = Checks.floorOf(Checks.plainFloor(width, height, 0));
                int cells = width * height;
                checks.due("cell(0)", x.cell(0), 6);
                checks.due("cell(last)", x.cell(cells - 1), cells == 1 ? 6 : 0);
                int[] none = {-1, -2, cells, cells + 1, cells + 64, 64, Integer.MIN_VALUE, Integer.MAX_VALUE};
                for (int cell : none) {
                    if (cell < 0 || cell >= cells) {
                        checks.due("cell(" + cell + ") of " + cells, x.cell(cell), Checks.BAD);
                    }
                }
            }
        }
        SweptFloors x = Checks.floorOf(Checks.plainFloor(6, 6, 0));
        checks.due("cell(35) of 36", x.cell(35), 0);
        Checks.tell(x, "D.;");
        x.floor();
        checks.due("cell(2) of 2 behind it", x.cell(2), Checks.BAD);
        checks.due("cell(35) of 2 behind it", x.cell(35), Checks.BAD);
    }
}
