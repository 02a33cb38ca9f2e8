/** Counts the answers that are not as due, and tells them. */
final class Checks {
    static final int BAD = -1, STATE = -2, FULL = -3, NONE = -9;

    private final String name;
    private int asked;
    private int wrong;

    Checks(String name) {
        this.name = name;
    }

    void due(String call, int got, int want) {
        asked++;
        if (got != want) {
            wrong++;
            System.out.println(name + ": " + call + " answered " + got + ", due is " + want);
        }
    }

    void holds(String what, boolean so) {
        due(what, so ? 1 : 0, 1);
    }

    int wrong() {
        return wrong;
    }

    void end() {
        System.out.println(name + ": " + asked + " answers, " + wrong + " not as due");
        if (wrong != 0) {
            System.exit(1);
        }
    }

    static void tell(SweptFloors x, String text) {
        for (int i = 0; i < text.length(); i++) {
            x.type(text.charAt(i));
        }
    }

    static SweptFloors floorOf(String text) {
        SweptFloors x = new SweptFloors();
        tell(x, text);
        if (x.floor() < 1) {
            throw new IllegalStateException("no floor: " + text);
        }
        return x;
    }

    /** All that can be asked of an object, in one text: two that answer alike are taken to be alike. */
    static String portrait(SweptFloors x) {
        StringBuilder all = new StringBuilder();
        for (int what = 0; what <= 6; what++) {
            all.append(x.count(what)).append(' ');
        }
        all.append('|');
        for (int what = 0; what <= 5; what++) {
            all.append(x.robot(what)).append(' ');
        }
        all.append('|');
        int cells = x.count(0) * x.count(1);
        for (int cell = -1; cell < cells; cell++) {
            all.append(x.cell(cell)).append(' ').append(x.knows(cell)).append(' ');
            all.append(x.home(cell)).append(' ').append(x.room(cell)).append(',');
        }
        all.append('|');
        for (int k = -1; k < x.place(-1) + 1; k++) {
            all.append(x.place(k)).append(' ');
        }
        all.append('|');
        for (int k = -1; k < x.lane(-1, 0) + 1; k++) {
            all.append(x.lane(k, 0)).append(' ').append(x.lane(k, 1)).append(' ');
        }
        all.append('|');
        for (int what = 0; what <= 3; what++) {
            all.append(x.target(what)).append(' ');
        }
        all.append('|').append(x.reach(0)).append(' ').append(x.reach(1)).append(' ').append(x.when());
        return all.toString();
    }
}
