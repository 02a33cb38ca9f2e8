import java.util.ArrayList;
import java.util.LinkedHashMap;
import java.util.List;
import java.util.Map;
import java.util.function.Supplier;
import java.util.function.ToIntFunction;

/**
 * "Refused, and nothing changes": every call that can be refused, in states where it is, with the answer that is due,
 * and with a look at all that can be seen of the object later.
 */
public final class RefusedTest {
    private static final Checks checks = new Checks("RefusedTest");
    private static final int BAD = Checks.BAD, STATE = Checks.STATE, FULL = Checks.FULL;
    private static final int LEAST = Integer.MIN_VALUE, MOST = Integer.MAX_VALUE;
    private static final String FLOOR = "..d.;.D#!;..n.;";

    private static final Map<String, Supplier<SweptFloors>> states = new LinkedHashMap<>();

    public static void main(String[] args) {
        states.put("as at first", RefusedTest::asAtFirst);
        states.put("much done", RefusedTest::muchDone);
        states.put("on the door", RefusedTest::onTheDoor);
        states.put("without charge", RefusedTest::withoutCharge);
        states.put("lost", RefusedTest::lost);
        states.put("lost without charge", RefusedTest::lostWithoutCharge);
        states.put("the text full", RefusedTest::textFull);
        checks.sentence("Refused, and nothing changes, the first of these: BAD (a number is not as told, "
            + "or there is no such thing), STATE (as told), FULL.");
        badInEveryState();
        stateAsTold();
        full();
        theFirstOfThem();
        faults();
        questionsChangeNothing();
        checks.end();
    }

    // ---- states; each has images and what can be undone, but the first

    private static SweptFloors asAtFirst() {
        return Checks.floorOf(FLOOR);
    }

    private static SweptFloors muchDone() {
        SweptFloors x = Checks.floorOf(FLOOR);
        x.keep(1);
        x.goes(3);
        x.powers(30, 3);
        x.keep(0);
        x.rotates(1);
        x.steps();
        x.scans();
        x.goes(2);
        x.moves(2);
        x.rotates(3);
        Checks.tell(x, "D.;");
        return x;
    }

    private static SweptFloors onTheDoor() {
        SweptFloors x = Checks.floorOf(FLOOR);
        x.keep(0);
        Checks.walk(x, 0, 1);
        return x;
    }

    private static SweptFloors withoutCharge() {
        SweptFloors x = Checks.floorOf(FLOOR);
        x.powers(2, 7);
        x.keep(1);
        Checks.walk(x, 2, 3);
        Checks.tell(x, "D");
        return x;
    }

    private static SweptFloors lost() {
        SweptFloors x = muchDone();
        x.carries(9, 3);
        x.steps();
        return x;
    }

    private static SweptFloors lostWithoutCharge() {
        SweptFloors x = withoutCharge();
        x.carries(2, 2);
        x.scans();
        return x;
    }

    private static SweptFloors textFull() {
        SweptFloors x = muchDone();
        Checks.tell(x, Checks.times(57, " "));
        return x;
    }

    // ---- what is asked

    private static void refused(String state, String call, ToIntFunction<SweptFloors> asked, int want) {
        Supplier<SweptFloors> made = states.get(state);
        checks.refused(call + ", " + state, made, asked::applyAsInt, asked.applyAsInt(made.get()), want);
    }

    private static void inEveryState(String call, ToIntFunction<SweptFloors> asked, int want) {
        for (String state : states.keySet()) {
            refused(state, call, asked, want);
        }
    }

    private static List<Integer> outside(int least, int most) {
        List<Integer> numbers = new ArrayList<>(List.of(LEAST, least - 2, least - 1, most + 1, most + 2, MOST));
        numbers.removeIf(n -> n >= least && n <= most);
        return numbers;
    }

    private static void badInEveryState() {
        for (int n : outside(0, 255)) {
            inEveryState("type(" + n + ")", x -> x.type(n), BAD);
        }
        for (int n : outside(0, 11)) {
            inEveryState("cell(" + n + ")", x -> x.cell(n), BAD);
            inEveryState("knows(" + n + ")", x -> x.knows(n), BAD);
            inEveryState("home(" + n + ")", x -> x.home(n), BAD);
            inEveryState("moves(" + n + ")", x -> x.moves(n), BAD);
            inEveryState("carries(" + n + ", 0)", x -> x.carries(n, 0), BAD);
        }
        for (int n : outside(-1, 11)) {
            inEveryState("room(" + n + ")", x -> x.room(n), BAD);
        }
        for (int n : outside(1, 99)) {
            inEveryState("powers(" + n + ", 5)", x -> x.powers(n, 5), BAD);
        }
        for (int n : outside(1, 20)) {
            inEveryState("powers(40, " + n + ")", x -> x.powers(40, n), BAD);
        }
        for (int n : outside(1, 3)) {
            inEveryState("rotates(" + n + ")", x -> x.rotates(n), BAD);
        }
        for (int n : outside(0, 3)) {
            inEveryState("carries(0, " + n + ")", x -> x.carries(0, n), BAD);
            inEveryState("target(" + n + ")", x -> x.target(n), BAD);
        }
        for (int n : outside(1, 60)) {
            inEveryState("goes(" + n + ")", x -> x.goes(n), BAD);
        }
        for (int n : outside(0, 5)) {
            inEveryState("robot(" + n + ")", x -> x.robot(n), BAD);
        }
        for (int n : outside(0, 6)) {
            inEveryState("count(" + n + ")", x -> x.count(n), BAD);
        }
        for (int n : outside(0, 1)) {
            inEveryState("lane(0, " + n + ")", x -> x.lane(0, n), BAD);
            inEveryState("lane(-1, " + n + ")", x -> x.lane(-1, n), BAD);
            inEveryState("reach(" + n + ")", x -> x.reach(n), BAD);
            inEveryState("keep(" + n + ")", x -> x.keep(n), BAD);
            inEveryState("back(" + n + ")", x -> x.back(n), BAD);
        }
        int[] belowMinusOne = {LEAST, -3, -2};
        for (int n : belowMinusOne) {
            inEveryState("place(" + n + ")", x -> x.place(n), BAD);
            inEveryState("lane(" + n + ", 0)", x -> x.lane(n, 0), BAD);
        }
        // there is such a cell, but it is no door, or not free
        int[] noDoors = {0, 1, 3, 4, 5, 6, 7, 8, 9, 10, 11};
        for (int n : noDoors) {
            inEveryState("moves(" + n + ")", x -> x.moves(n), BAD);
        }
        int[] notFree = {6, 7, 10};
        for (int n : notFree) {
            inEveryState("carries(" + n + ", 0)", x -> x.carries(n, 0), BAD);
        }
        refused("much done", "carries(2, 0), a shut door", x -> x.carries(2, 0), BAD);
        refused("lost", "carries(2, 0), a shut door", x -> x.carries(2, 0), BAD);
    }

    private static void stateAsTold() {
        refused("as at first", "powers(40, 5)", x -> x.powers(40, 5), STATE);
        refused("much done", "powers(30, 3)", x -> x.powers(30, 3), STATE);
        refused("lost", "powers(30, 3)", x -> x.powers(30, 3), STATE);
        refused("without charge", "powers(2, 7)", x -> x.powers(2, 7), STATE);
        refused("on the door", "moves(2)", x -> x.moves(2), STATE);
        refused("lost without charge", "moves(2)", x -> x.moves(2), STATE);
        refused("without charge", "steps()", SweptFloors::steps, STATE);
        refused("lost without charge", "steps()", SweptFloors::steps, STATE);
        refused("lost", "goes(1)", x -> x.goes(1), STATE);
        refused("lost", "goes(60)", x -> x.goes(60), STATE);
        refused("lost without charge", "goes(1)", x -> x.goes(1), STATE);
        refused("as at first", "undo()", SweptFloors::undo, STATE);
        refused("as at first", "back(0)", x -> x.back(0), STATE);
        refused("as at first", "back(1)", x -> x.back(1), STATE);
        refused("on the door", "back(1)", x -> x.back(1), STATE);
        refused("without charge", "back(0)", x -> x.back(0), STATE);
    }

    private static void full() {
        refused("the text full", "type(0)", x -> x.type(0), FULL);
        refused("the text full", "type(255)", x -> x.type(255), FULL);
        refused("the text full", "type('.')", x -> x.type('.'), FULL);
        refused("the text full", "type(' ')", x -> x.type(' '), FULL);
    }

    /** Where two reasons stand, the first one is told. */
    private static void theFirstOfThem() {
        refused("the text full", "type(-1)", x -> x.type(-1), BAD);
        refused("the text full", "type(256)", x -> x.type(256), BAD);
        refused("lost", "goes(0)", x -> x.goes(0), BAD);
        refused("lost", "goes(61)", x -> x.goes(61), BAD);
        refused("as at first", "back(-1)", x -> x.back(-1), BAD);
        refused("as at first", "back(2)", x -> x.back(2), BAD);
        refused("as at first", "moves(5), the robot there and no door", x -> x.moves(5), BAD);
        refused("as at first", "powers(40, 21)", x -> x.powers(40, 21), BAD);
        refused("as at first", "powers(0, 5)", x -> x.powers(0, 5), BAD);
    }

    private static void faults() {
        refused("as at first", "floor()", SweptFloors::floor, -10);
        refused("on the door", "floor()", SweptFloors::floor, -10);
        refused("without charge", "floor()", SweptFloors::floor, -11);
        refused("lost without charge", "floor()", SweptFloors::floor, -11);
    }

    /** Questions that are answered leave no trace either. */
    private static void questionsChangeNothing() {
        for (String state : states.keySet()) {
            Supplier<SweptFloors> made = states.get(state);
            for (int n = -1; n <= 12; n++) {
                int k = n;
                checks.holds("questions of " + k + ", " + state, Checks.twins(made, x -> {
                    x.cell(k);
                    x.robot(k);
                    x.knows(k);
                    x.home(k);
                    x.target(k);
                    x.place(k);
                    x.lane(k, 0);
                    x.lane(k, 1);
                    x.room(k);
                    x.reach(k);
                    x.count(k);
                }));
            }
            checks.holds("when(), " + state, Checks.twins(made, SweptFloors::when));
        }
    }
}
