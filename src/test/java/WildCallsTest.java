import java.util.ArrayList;
import java.util.List;
import java.util.Random;

/** Calls with any numbers in any state: none throws, and one that is refused changes nothing. */
public final class WildCallsTest {
    private static final Checks checks = new Checks("WildCallsTest");
    private static final int[] WILD = {Integer.MIN_VALUE, Integer.MIN_VALUE + 1, -65, -64, -63, -37, -36, -10, -9,
        -4, -3, -2, -1, 0, 1, 2, 3, 4, 5, 6, 7, 20, 21, 32, 35, 36, 37, 46, 59, 60, 61, 63, 64, 65, 68, 99, 100,
        143, 144, 145, 255, 256, 1 << 16, 1 << 30, Integer.MAX_VALUE - 1, Integer.MAX_VALUE};

    public static void main(String[] args) {
        for (int run = 0; run < 300 && checks.wrong() < 20; run++) {
            runOf(new Random(run));
        }
        makesNothingInCalls();
        checks.end();
    }

    /** Each look at the object is a run of its own from its making on, so that none comes to 512 calls. */
    private static void runOf(Random lot) {
        boolean small = lot.nextBoolean();
        List<int[]> calls = new ArrayList<>();
        String before = Checks.portrait(made(small, calls));
        for (int call = 0; call < 150; call++) {
            int which = lot.nextInt(24);
            int a = lot.nextInt(3) == 0 ? lot.nextInt() : WILD[lot.nextInt(WILD.length)];
            int b = lot.nextInt(3) == 0 ? lot.nextInt() : WILD[lot.nextInt(WILD.length)];
            if (lot.nextInt(4) == 0) {
                a = lot.nextInt(24);
                b = lot.nextInt(4);
            }
            SweptFloors x = made(small, calls);
            int answer = called(x, which, a, b);
            String behind = Checks.portrait(x);
            boolean asks = which >= 12 && which != 22;
            if (answer < 0 || asks) {
                checks.holds("call " + which + " of " + a + ", " + b + " answered " + answer + " and changes nothing",
                    before.equals(behind));
            }
            calls.add(new int[] {which, a, b});
            before = behind;
        }
    }

    private static SweptFloors made(boolean small, List<int[]> calls) {
        SweptFloors x = small ? new SweptFloors() : Checks.floorOf("..d.!.;.D#!..;..n...;d.d#..;");
        for (int[] call : calls) {
            called(x, call[0], call[1], call[2]);
        }
        return x;
    }

    private static int called(SweptFloors x, int which, int a, int b) {
        switch (which) {
            case 0: return x.type(a);
            case 1: return x.clear();
            case 2: return x.floor();
            case 3: return x.undo();
            case 4: return x.powers(a, b);
            case 5: return x.moves(a);
            case 6: return x.steps();
            case 7: return x.rotates(a);
            case 8: return x.scans();
            case 9: return x.carries(a, b);
            case 10: return x.goes(a);
            case 11: return x.steps();
            case 12: return x.cell(a);
            case 13: return x.robot(a);
            case 14: return x.knows(a);
            case 15: return x.home(a);
            case 16: return x.target(a);
            case 17: return x.place(a);
            case 18: return x.lane(a, b);
            case 19: return x.room(a);
            case 20: return x.reach(a);
            case 21: return x.keep(a);
            case 22: return x.back(a);
            default: return x.count(a);
        }
    }

    /** All objects of a run live in one room: what an object needs it makes at first, and no call makes more. */
    private static void makesNothingInCalls() {
        com.sun.management.ThreadMXBean meter =
            (com.sun.management.ThreadMXBean) java.lang.management.ManagementFactory.getThreadMXBean();
        long thread = Thread.currentThread().getId();
        SweptFloors x = Checks.floorOf("D.....;......;..#...;......;......;......;");
        long least = Long.MAX_VALUE;
        for (int round = 0; round < 15; round++) {
            long before = meter.getThreadAllocatedBytes(thread);
            for (int which = 0; which < 24; which++) {
                called(x, which, 1, 1);
            }
            x.when();
            x.goes(60);
            least = Math.min(least, meter.getThreadAllocatedBytes(thread) - before);
        }
        checks.holds("26 calls made " + least + " bytes", least < 512);
    }
}
