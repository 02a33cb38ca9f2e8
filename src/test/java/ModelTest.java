import java.util.Random;

/** Runs of calls drawn by lot (always the same ones), the class held against the model. */
public final class ModelTest {
    private static final Checks checks = new Checks("ModelTest");
    private static final int RUNS = 4000;
    private static final int CALLS = 512;

    public static void main(String[] args) {
        for (int run = 0; run < RUNS && checks.wrong() < 20; run++) {
            runOf(run);
        }
        checks.end();
    }

    private static void runOf(int run) {
        Random lot = new Random(run);
        SweptFloors x = new SweptFloors();
        Model m = new Model();
        StringBuilder told = new StringBuilder();
        int calls = 0;
        if (lot.nextInt(8) != 0) {
            calls += tellFloor(x, m, lot, told);
        }
        while (calls < CALLS) {
            if (lot.nextInt(100) == 0 && calls < CALLS - 70) {
                calls += tellFloor(x, m, lot, told);
            }
            calls++;
            if (!same(x, m, lot, told, run)) {
                return;
            }
        }
    }

    private static int tellFloor(SweptFloors x, Model m, Random lot, StringBuilder told) {
        StringBuilder text = new StringBuilder();
        int width = 1 + lot.nextInt(6);
        int height = 1 + lot.nextInt(6);
        int dock = lot.nextInt(width * height);
        String signs = lot.nextInt(3) == 0 ? ".#!nd" : ".......#!nd.d";
        for (int i = 0; i < width * height; i++) {
            text.append(i == dock ? 'D' : signs.charAt(lot.nextInt(signs.length())));
            if (i % width == width - 1) {
                text.append(';');
            }
        }
        if (lot.nextInt(6) == 0) {
            text.insert(lot.nextInt(text.length() + 1), ".#;D x!".charAt(lot.nextInt(7)));
        }
        if (lot.nextInt(12) == 0) {
            text.deleteCharAt(lot.nextInt(text.length()));
        }
        int calls = 1;
        checks.due("clear()", x.clear(), m.clear());
        for (int i = 0; i < text.length(); i++) {
            checks.due("type", x.type(text.charAt(i)), m.type(text.charAt(i)));
            calls++;
        }
        told.append("floor ").append(text).append('\n');
        return calls + told(x.floor(), m.floor(), text.toString());
    }

    private static int told(int got, int want, String text) {
        checks.due("floor() of " + text, got, want);
        return 1;
    }

    /** A number that is mostly good, sometimes just beyond, seldom wild. */
    private static int number(Random lot, int least, int most) {
        int kind = lot.nextInt(40);
        if (kind == 0) {
            return least - 1 - lot.nextInt(3);
        }
        if (kind == 1) {
            return most + 1 + lot.nextInt(3);
        }
        if (kind == 2) {
            return lot.nextInt();
        }
        return least + lot.nextInt(most - least + 1);
    }

    private static boolean same(SweptFloors x, Model m, Random lot, StringBuilder told, int run) {
        int call = lot.nextInt(48);
        int cells = m.count(0) * m.count(1);
        int cell = number(lot, 0, cells - 1);
        int got;
        int want;
        String name;
        int a = 0;
        int b = 0;
        switch (call) {
            case 0: a = number(lot, 0, 255); name = "type"; got = x.type(a); want = m.type(a); break;
            case 1: name = "clear"; got = x.clear(); want = m.clear(); break;
            case 2: name = "floor"; got = x.floor(); want = m.floor(); break;
            case 3: a = cell; name = "cell"; got = x.cell(a); want = m.cell(a); break;
            case 4: a = number(lot, 1, lot.nextBoolean() ? 99 : 20); b = number(lot, 1, 20); name = "powers";
                got = x.powers(a, b); want = m.powers(a, b); break;
            case 5: case 6: case 7: a = cell; name = "moves"; got = x.moves(a); want = m.moves(a); break;
            case 8: case 9: case 10: case 11: case 12: case 13:
                name = "steps"; got = x.steps(); want = m.steps(); break;
            case 14: case 15: case 16: case 17:
                a = number(lot, 1, 3); name = "rotates"; got = x.rotates(a); want = m.rotates(a); break;
            case 18: case 19: case 20: name = "scans"; got = x.scans(); want = m.scans(); break;
            case 21: a = cell; b = number(lot, 0, 3); name = "carries";
                got = x.carries(a, b); want = m.carries(a, b); break;
            case 22: case 23: case 24: case 25: case 26:
                a = number(lot, 1, lot.nextBoolean() ? 60 : 4); name = "goes"; got = x.goes(a); want = m.goes(a); break;
            case 27: case 28: name = "undo"; got = x.undo(); want = m.undo(); break;
            case 29: a = number(lot, 0, 5); name = "robot"; got = x.robot(a); want = m.robot(a); break;
            case 30: a = cell; name = "knows"; got = x.knows(a); want = m.knows(a); break;
            case 31: case 32: a = cell; name = "home"; got = x.home(a); want = m.home(a); break;
            case 33: case 34: case 35: a = number(lot, 0, 3); name = "target"; got = x.target(a); want = m.target(a); break;
            case 36: case 37: case 38: a = number(lot, -1, lot.nextBoolean() ? 12 : 144); name = "place";
                got = x.place(a); want = m.place(a); break;
            case 39: a = number(lot, -1, 12); b = number(lot, 0, 1); name = "lane";
                got = x.lane(a, b); want = m.lane(a, b); break;
            case 40: a = number(lot, -1, cells - 1); name = "room"; got = x.room(a); want = m.room(a); break;
            case 41: a = number(lot, 0, 1); name = "reach"; got = x.reach(a); want = m.reach(a); break;
            case 42: case 43: name = "when"; got = x.when(); want = m.when(); break;
            case 44: a = number(lot, 0, 1); name = "keep"; got = x.keep(a); want = m.keep(a); break;
            case 45: a = number(lot, 0, 1); name = "back"; got = x.back(a); want = m.back(a); break;
            default: a = number(lot, 0, 6); name = "count"; got = x.count(a); want = m.count(a); break;
        }
        told.append(name).append(' ').append(a).append(' ').append(b).append('\n');
        checks.due("run " + run + ": " + name + "(" + a + ", " + b + ")", got, want);
        if (got != want) {
            System.out.println(told);
        }
        return got == want;
    }
}
