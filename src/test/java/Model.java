import java.util.ArrayDeque;
import java.util.ArrayList;
import java.util.Arrays;
import java.util.Deque;
import java.util.List;
import java.util.TreeSet;

/**
 * The document once more, as plainly as can be: rows, lists and tries of everything, nothing shared with
 * the class. ModelTest holds the class against it.
 */
final class Model {
    static final int BAD = -1, STATE = -2, FULL = -3, NONE = -9;
    private static final int[] DX = {0, 1, 0, -1};
    private static final int[] DY = {-1, 0, 1, 0};

    /** All that can be undone. */
    private static final class Scene implements Cloneable {
        String kinds;
        int brim = 40, rate = 5, x, y, heading, charge = 40;
        int[] known;
        boolean lost;
        TreeSet<Integer> places = new TreeSet<>();

        Scene copy() {
            Scene c = new Scene();
            c.kinds = kinds;
            c.brim = brim;
            c.rate = rate;
            c.x = x;
            c.y = y;
            c.heading = heading;
            c.charge = charge;
            c.known = known.clone();
            c.lost = lost;
            c.places = new TreeSet<>(places);
            return c;
        }
    }

    private final StringBuilder text = new StringBuilder();
    private int width, height, dock;
    private Scene s;
    private final Deque<Scene> undone = new ArrayDeque<>();
    private final Scene[] images = new Scene[2];

    Model() {
        start(List.of("D"));
    }

    private void start(List<String> rows) {
        width = rows.get(0).length();
        height = rows.size();
        s = new Scene();
        s.kinds = String.join("", rows);
        dock = s.kinds.indexOf('D');
        s.x = dock % width;
        s.y = dock / width;
        s.known = new int[width * height];
        s.known[dock] = 1;
        undone.clear();
        images[0] = null;
        images[1] = null;
        text.setLength(0);
    }

    int type(int letter) {
        if (letter < 0 || letter > 255) return BAD;
        if (text.length() == 60) return FULL;
        text.append((char) letter);
        return text.length();
    }

    int clear() {
        int had = text.length();
        text.setLength(0);
        return had;
    }

    int floor() {
        List<String> rows = new ArrayList<>();
        String row = "";
        boolean dockSeen = false;
        for (int i = 0; i < text.length(); i++) {
            char c = text.charAt(i);
            if (c == ' ') continue;
            if (c == ';') {
                if (row.isEmpty()) return -10 - i;
                if (!rows.isEmpty() && row.length() < rows.get(0).length()) return -10 - i;
                rows.add(row);
                row = "";
                continue;
            }
            if (".#!ndD".indexOf(c) < 0) return -10 - i;
            if (row.length() == 6) return -10 - i;
            if (!rows.isEmpty() && row.length() == rows.get(0).length()) return -10 - i;
            if (c == 'D' && dockSeen) return -10 - i;
            if (rows.size() == 6) return -10 - i;
            dockSeen |= c == 'D';
            row += c;
        }
        if (!row.isEmpty() || rows.isEmpty() || !dockSeen) return -10 - text.length();
        start(rows);
        return width * height;
    }

    private boolean isCell(int cell) {
        return cell >= 0 && cell < width * height;
    }

    // a shut door is 'S' here
    private char kind(int cell) {
        return s.kinds.charAt(cell);
    }

    private boolean free(int cell) {
        return ".Dd".indexOf(kind(cell)) >= 0;
    }

    private boolean door(int cell) {
        return kind(cell) == 'd' || kind(cell) == 'S';
    }

    private int beside(int cell, int hand) {
        int x = cell % width + DX[hand];
        int y = cell / width + DY[hand];
        return x < 0 || x >= width || y < 0 || y >= height ? -1 : y * width + x;
    }

    private int here() {
        return s.y * width + s.x;
    }

    int cell(int cell) {
        return isCell(cell) ? ".#!ndSD".indexOf(kind(cell)) : BAD;
    }

    private void remember() {
        undone.addLast(s.copy());
        if (undone.size() > 6) undone.removeFirst();
    }

    int powers(int brim, int rate) {
        if (brim < 1 || brim > 99 || rate < 1 || rate > 20) return BAD;
        if (s.brim == brim && s.rate == rate) return STATE;
        remember();
        s.brim = brim;
        s.rate = rate;
        if (s.charge > brim) s.charge = brim;
        return s.charge;
    }

    int moves(int cell) {
        if (!isCell(cell) || !door(cell)) return BAD;
        if (here() == cell) return STATE;
        remember();
        boolean opens = kind(cell) == 'S';
        s.kinds = s.kinds.substring(0, cell) + (opens ? 'd' : 'S') + s.kinds.substring(cell + 1);
        return opens ? 1 : 0;
    }

    int steps() {
        if (s.charge == 0) return STATE;
        remember();
        return step(s.heading);
    }

    private int step(int hand) {
        s.heading = hand;
        s.charge--;
        int ahead = beside(here(), hand);
        int told;
        if (ahead == -1 || kind(ahead) == '#' || kind(ahead) == 'S') told = 1;
        else if (kind(ahead) == '!') told = 2;
        else if (kind(ahead) == 'n') told = 3;
        else told = 0;
        if (s.lost) {
            int sign = told == 0 ? 0 : told == 3 ? 2 : 1;
            TreeSet<Integer> left = new TreeSet<>();
            for (int p : s.places) {
                int next = beside(p / 4, p % 4);
                if (canBe(next, sign)) left.add(told == 0 ? next * 4 + p % 4 : p);
            }
            s.places = left;
            settle();
        } else if (told == 0) {
            s.known[ahead] = 1;
        } else if (ahead != -1 && told != 3) {
            s.known[ahead] = 2;
        }
        if (told == 0) {
            s.x = ahead % width;
            s.y = ahead / width;
        }
        return told;
    }

    private boolean canBe(int cell, int sign) {
        if (cell == -1) return sign == 1;
        if (kind(cell) == 'n') return sign == 2;
        if (sign == 2) return false;
        if (!door(cell) && s.known[cell] == 1) return sign == 0;
        if (!door(cell) && s.known[cell] == 2) return sign == 1;
        return true;
    }

    private void settle() {
        if (s.places.size() == 1) s.lost = false;
    }

    int rotates(int q) {
        if (q < 1 || q > 3) return BAD;
        remember();
        s.heading = (s.heading + q) % 4;
        if (s.lost) {
            TreeSet<Integer> turned = new TreeSet<>();
            for (int p : s.places) turned.add(p / 4 * 4 + (p % 4 + q) % 4);
            s.places = turned;
            settle();
        }
        return s.heading;
    }

    int scans() {
        remember();
        int[] signs = new int[4];
        for (int q = 0; q < 4; q++) {
            int c = beside(here(), (s.heading + q) % 4);
            signs[q] = c == -1 ? 1 : free(c) ? 0 : kind(c) == 'n' ? 2 : 1;
        }
        if (s.lost) {
            s.places.removeIf(p -> {
                for (int q = 0; q < 4; q++) {
                    if (!canBe(beside(p / 4, (p % 4 + q) % 4), signs[q])) return true;
                }
                return false;
            });
            settle();
        }
        return signs[0] * 27 + signs[1] * 9 + signs[2] * 3 + signs[3];
    }

    int carries(int cell, int heading) {
        if (!isCell(cell) || !free(cell) || heading < 0 || heading > 3) return BAD;
        remember();
        s.x = cell % width;
        s.y = cell / width;
        s.heading = heading;
        s.lost = true;
        s.places.clear();
        for (int c = 0; c < width * height; c++) {
            if (kind(c) == 'n' || s.known[c] == 2 && !door(c)) continue;
            for (int h = 0; h < 4; h++) s.places.add(4 * c + h);
        }
        int count = s.places.size();
        settle();
        return count;
    }

    /** Distances by cells of which it knows 1, made better until nothing changes. */
    private int[] ways(int from, boolean[] in) {
        int[] d = new int[width * height];
        Arrays.fill(d, NONE);
        if (in[from]) d[from] = 0;
        for (boolean changed = true; changed; ) {
            changed = false;
            for (int c = 0; c < d.length; c++) {
                if (d[c] == NONE) continue;
                for (int h = 0; h < 4; h++) {
                    int b = beside(c, h);
                    if (b != -1 && in[b] && (d[b] == NONE || d[b] > d[c] + 1)) {
                        d[b] = d[c] + 1;
                        changed = true;
                    }
                }
            }
        }
        return d;
    }

    private boolean[] knownFree() {
        boolean[] in = new boolean[width * height];
        for (int c = 0; c < in.length; c++) in[c] = s.known[c] == 1;
        return in;
    }

    /** way, target, gate, back of the best one, or null. */
    private int[] best() {
        boolean[] in = knownFree();
        int[] way = ways(here(), in);
        int[] home = ways(dock, in);
        int[] best = null;
        for (int t = 0; t < width * height; t++) {
            if (kind(t) == 'n' || s.known[t] != 0) continue;
            for (int h = 0; h < 4; h++) {
                int g = beside(t, h);
                if (g == -1 || home[g] == NONE || way[g] == NONE) continue;
                int[] one = {way[g] + 1, t, g, home[g] + 1};
                if (one[0] + one[3] > s.charge) continue;
                if (best == null || Arrays.compare(one, best) < 0) best = one;
            }
        }
        return best;
    }

    /** Whether it stepped. */
    private boolean action() {
        if (here() == dock && s.charge < s.brim) {
            s.charge = Math.min(s.brim, s.charge + s.rate);
            return false;
        }
        if (s.charge == 0) return false;
        int[] best = best();
        int goal = best == null ? dock : best[2];
        if (best != null && here() == goal) {
            for (int h = 0; h < 4; h++) {
                if (beside(here(), h) == best[1]) {
                    step(h);
                    return true;
                }
            }
        }
        if (best == null && here() == dock) return false;
        int[] left = ways(goal, knownFree());
        if (left[here()] == NONE) return false;
        for (int h = 0; h < 4; h++) {
            int b = beside(here(), h);
            if (b != -1 && left[b] != NONE && left[b] == left[here()] - 1) {
                step(h);
                return true;
            }
        }
        return false;
    }

    int goes(int n) {
        if (n < 1 || n > 60) return BAD;
        if (s.lost) return STATE;
        remember();
        int stepped = 0;
        for (int i = 0; i < n; i++) {
            if (action()) stepped++;
        }
        return stepped;
    }

    int undo() {
        if (undone.isEmpty()) return STATE;
        s = undone.removeLast();
        return undone.size();
    }

    private int knownAs(int what) {
        int n = 0;
        for (int k : s.known) {
            if (k == what) n++;
        }
        return n;
    }

    int robot(int what) {
        int[] told = {here(), s.heading, s.charge, s.lost ? 1 : 0, knownAs(1), knownAs(2)};
        return what < 0 || what > 5 ? BAD : told[what];
    }

    int knows(int cell) {
        return isCell(cell) ? s.known[cell] : BAD;
    }

    int home(int cell) {
        return isCell(cell) ? ways(dock, knownFree())[cell] : BAD;
    }

    int target(int what) {
        if (what < 0 || what > 3) return BAD;
        if (s.lost) return NONE;
        int[] best = best();
        if (best == null) return NONE;
        return new int[] {best[1], best[0], best[3], best[2]}[what];
    }

    int place(int k) {
        if (k < -1) return BAD;
        List<Integer> all = new ArrayList<>(s.places);
        if (!s.lost) all = List.of(4 * here() + s.heading);
        if (k == -1) return all.size();
        return k < all.size() ? all.get(k) : NONE;
    }

    int lane(int k, int what) {
        if (k < -1 || what < 0 || what > 1) return BAD;
        List<int[]> lanes = new ArrayList<>();
        for (int y = 0; y < height; y++) {
            int[] open = null;
            for (int x = 0; x < width; x++) {
                if (!free(y * width + x)) {
                    open = null;
                } else if (open == null) {
                    open = new int[] {y * width + x, 1};
                    lanes.add(open);
                } else {
                    open[1]++;
                }
            }
        }
        if (k == -1) return lanes.size();
        return k < lanes.size() ? lanes.get(k)[what] : NONE;
    }

    int room(int cell) {
        if (cell != -1 && !isCell(cell)) return BAD;
        boolean[] in = new boolean[width * height];
        for (int c = 0; c < in.length; c++) in[c] = kind(c) == '.' || kind(c) == 'D';
        int[] room = new int[in.length];
        Arrays.fill(room, NONE);
        int rooms = 0;
        for (int c = 0; c < in.length; c++) {
            if (!in[c] || room[c] != NONE) continue;
            int[] d = ways(c, in);
            for (int other = 0; other < in.length; other++) {
                if (d[other] != NONE) room[other] = rooms;
            }
            rooms++;
        }
        return cell == -1 ? rooms : room[cell];
    }

    int reach(int what) {
        if (what < 0 || what > 1) return BAD;
        boolean[] in = new boolean[width * height];
        for (int c = 0; c < in.length; c++) in[c] = free(c);
        int reached = 0;
        int most = 0;
        for (int d : ways(dock, in)) {
            if (d != NONE) {
                reached++;
                most = Math.max(most, d);
            }
        }
        return what == 0 ? reached : 2 * most;
    }

    int when() {
        if (s.lost) return NONE;
        Scene before = s.copy();
        int answer = NONE;
        for (int i = 0; i <= 400 && answer == NONE; i++) {
            if (here() == dock && s.charge == s.brim && best() == null) answer = i;
            else action();
        }
        s = before;
        return answer;
    }

    int keep(int image) {
        if (image != 0 && image != 1) return BAD;
        images[image] = s.copy();
        return here();
    }

    int back(int image) {
        if (image != 0 && image != 1) return BAD;
        if (images[image] == null) return STATE;
        s = images[image].copy();
        undone.clear();
        return here();
    }

    int count(int what) {
        int[] told = {width, height, dock, s.brim, s.rate, text.length(), undone.size()};
        return what < 0 || what > 6 ? BAD : told[what];
    }
}
