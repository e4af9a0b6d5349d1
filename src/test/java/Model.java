import java.util.ArrayList;
import java.util.Arrays;
import java.util.List;

/**
 * The document written a second time, as plainly and slowly as can be: coasts are walked
 * degree by degree, and a setting is found by trying every row of ways.
 */
final class Model {
    private static final int MIN = Integer.MIN_VALUE;

    final int n;
    private final int w;
    private final List<int[]> coasts = new ArrayList<>();
    private final List<int[]> pieces = new ArrayList<>();
    private final List<int[]> names = new ArrayList<>();
    private final boolean[] struck = new boolean[60];
    private final boolean[] fresh;
    private final int[] printed;
    private final int[][] settings;
    private int across;
    private int along;
    private int editions;

    Model(int gores) {
        int found = 6;
        for (int k : new int[] {8, 9, 10, 12, 15, 18, 20, 24}) {
            found = gores >= k ? k : found;
        }
        n = found;
        w = 360 / n;
        fresh = new boolean[n];
        Arrays.fill(fresh, true);
        printed = new int[n];
        settings = new int[n][];
    }

    private static int cos(int d) {
        return d >= 90 ? 0 : (int) Math.round(1000 * Math.cos(Math.toRadians(d)));
    }

    private static boolean outside(long v, long low, long high) {
        return v < low || v > high;
    }

    private static int round(long p, long q) {
        return (int) Math.floor((2.0 * p + q) / (2.0 * q));
    }

    int narrow(int height) {
        if (outside(height, -5400, 5400)) {
            return -1;
        }
        int d = Math.abs(height) / 60;
        int r = Math.abs(height) - 60 * d;
        return (cos(d) * (60 - r) + cos(d + 1) * r) / 60;
    }

    int across(int side, int height) {
        if (outside(side, -w, w) || outside(height, -5400, 5400)) {
            return MIN;
        }
        return 30 * side * narrow(height) / 1000;
    }

    int coast(int longitude, int latitude) {
        if (outside(longitude, 0, 359) || outside(latitude, -90, 90) || coasts.size() == 30) {
            return -1;
        }
        coasts.add(new int[] {longitude, latitude});
        return coasts.size() - 1;
    }

    int to(int coast, int longitude, int latitude) {
        if (outside(coast, 0, coasts.size() - 1) || outside(longitude, 0, 359)
                || outside(latitude, -90, 90)) {
            return -1;
        }
        int[] at = coasts.get(coast);
        int east = (longitude - at[0] + 360) % 360;
        if (east == 180 || Arrays.equals(at, new int[] {longitude, latitude})) {
            return -1;
        }
        int l = Math.min(east, 360 - east);
        List<int[]> cut = l == 0 ? upright(coast, at, latitude)
                : walk(coast, at, latitude, l, east < 180 ? 1 : 359);
        if (pieces.size() + cut.size() > 600) {
            return -1;
        }
        pieces.addAll(cut);
        for (int[] piece : cut) {
            fresh[piece[0]] = true;
        }
        coasts.set(coast, new int[] {longitude, latitude});
        return cut.size();
    }

    private List<int[]> upright(int coast, int[] at, int latitude) {
        List<int[]> cut = new ArrayList<>();
        int gore = at[0] / w;
        int side = 2 * (at[0] - gore * w) - w;
        cut.add(new int[] {gore, coast, side, at[1] * 60, side, latitude * 60});
        if (side == -w) {
            cut.add(new int[] {(gore + n - 1) % n, coast, w, at[1] * 60, w, latitude * 60});
        }
        return cut;
    }

    private List<int[]> walk(int coast, int[] at, int latitude, int l, int stride) {
        List<int[]> cut = new ArrayList<>();
        int here = at[0];
        int[] open = null;
        for (int e = 0; e < l; e++) {
            int next = (here + stride) % 360;
            int west = stride == 1 ? here : next;
            int gore = west / w;
            int westSide = 2 * (west % w) - w;
            int hereSide = stride == 1 ? westSide : westSide + 2;
            int nextSide = stride == 1 ? westSide + 2 : westSide;
            if (open == null || open[0] != gore) {
                open = new int[] {gore, coast, hereSide, height(at, latitude, e, l), 0, 0};
                cut.add(open);
            }
            open[4] = nextSide;
            open[5] = height(at, latitude, e + 1, l);
            here = next;
        }
        return cut;
    }

    private static int height(int[] at, int latitude, int e, int l) {
        return at[1] * 60 + round((latitude - at[1]) * 60L * e, l);
    }

    private List<int[]> piecesIn(int gore) {
        List<int[]> found = new ArrayList<>();
        for (int[] piece : pieces) {
            if (piece[0] == gore) {
                found.add(piece);
            }
        }
        return found;
    }

    int pieces(int gore) {
        return outside(gore, 0, n - 1) ? -1 : piecesIn(gore).size();
    }

    int piece(int gore, int i, int what) {
        if (outside(what, 0, 4)) {
            return -1;
        }
        List<int[]> there = piecesIn(gore);
        if (outside(i, 0, there.size() - 1)) {
            return what == 0 ? -1 : MIN;
        }
        return there.get(i)[what + 1];
    }

    boolean paper(int newAcross, int newAlong) {
        if (outside(newAcross, 0, 50) || outside(newAlong, 0, 50)
                || (newAcross == across && newAlong == along)) {
            return false;
        }
        across = newAcross;
        along = newAlong;
        Arrays.fill(fresh, true);
        return true;
    }

    int drawn(int v, int what) {
        if (outside(what, 0, 1) || outside(v, -10000, 10000)) {
            return -1;
        }
        return round(v * 1000L, 1000 + (what == 0 ? across : along));
    }

    int wet(int v, int what) {
        if (outside(what, 0, 1) || outside(v, -10000, 10000)) {
            return -1;
        }
        return round(v * (1000L + (what == 0 ? across : along)), 1000);
    }

    private List<Integer> namesIn(int gore) {
        List<Integer> found = new ArrayList<>();
        for (int k = 0; k < names.size(); k++) {
            if (!struck[k] && names.get(k)[0] == gore) {
                found.add(k);
            }
        }
        return found;
    }

    private boolean there(int name) {
        return !outside(name, 0, names.size() - 1) && !struck[name];
    }

    int name(int longitude, int latitude, int letters, int price) {
        if (outside(longitude, 0, 359) || outside(latitude, -90, 90) || outside(letters, 1, 20)
                || outside(price, 1, 99) || names.size() == 60
                || namesIn(longitude / w).size() == 6) {
            return -1;
        }
        int gore = longitude / w;
        names.add(new int[] {gore, 2 * (longitude - gore * w) - w, latitude * 60, letters, price});
        fresh[gore] = true;
        settings[gore] = null;
        return names.size() - 1;
    }

    boolean strike(int name) {
        if (!there(name)) {
            return false;
        }
        struck[name] = true;
        fresh[names.get(name)[0]] = true;
        settings[names.get(name)[0]] = null;
        return true;
    }

    /** Left, low, right, high. */
    private int[] box(int name, int way) {
        int[] of = names.get(name);
        int x = across(of[1], of[2]);
        int y = of[2];
        int wide = 40 * of[3];
        switch (way) {
            case 0: return new int[] {x, y, x + wide, y + 80};
            case 1: return new int[] {x - wide, y, x, y + 80};
            case 2: return new int[] {x, y - 80, x + wide, y};
            default: return new int[] {x - wide, y - 80, x, y};
        }
    }

    boolean may(int name, int way) {
        if (!there(name) || outside(way, 0, 4)) {
            return false;
        }
        if (way == 4) {
            return true;
        }
        int[] box = box(name, way);
        for (int corner = 0; corner < 4; corner++) {
            int x = box[corner % 2 * 2];
            int y = box[corner / 2 * 2 + 1];
            if (outside(y, -5400, 5400) || Math.abs(x) > Math.abs(across(w, y))) {
                return false;
            }
        }
        return true;
    }

    private boolean common(int a, int wayA, int b, int wayB) {
        int[] p = box(a, wayA);
        int[] q = box(b, wayB);
        int wide = Math.min(p[2], q[2]) - Math.max(p[0], q[0]);
        int high = Math.min(p[3], q[3]) - Math.max(p[1], q[1]);
        return wide > 0 && high > 0;
    }

    /** The least cost, then the ways of the names that are there. */
    private int[] setting(int gore) {
        if (settings[gore] != null) {
            return settings[gore];
        }
        List<Integer> in = namesIn(gore);
        int size = in.size();
        boolean[][] can = new boolean[size][5];
        boolean[][][][] meet = new boolean[size][5][size][5];
        for (int a = 0; a < size; a++) {
            for (int way = 0; way < 5; way++) {
                can[a][way] = may(in.get(a), way);
                for (int k = 0; k < a * 5; k++) {
                    meet[a][way][k / 5][k % 5] = way < 4 && k % 5 < 4
                            && common(in.get(a), way, in.get(k / 5), k % 5);
                }
            }
        }
        int codes = (int) Math.round(Math.pow(5, size));
        int[] least = null;
        for (int code = 0; code < codes; code++) {
            int[] row = row(code, in, can, meet);
            if (row != null && (least == null || row[0] < least[0])) {
                least = row;
            }
        }
        settings[gore] = least;
        return least;
    }

    private int[] row(int code, List<Integer> in, boolean[][] can, boolean[][][][] meet) {
        int[] row = new int[in.size() + 1];
        int rest = code;
        for (int k = in.size() - 1; k >= 0; k--) {
            row[k + 1] = rest % 5;
            rest /= 5;
        }
        for (int a = 0; a < in.size(); a++) {
            int way = row[a + 1];
            if (!can[a][way]) {
                return null;
            }
            for (int b = 0; b < a; b++) {
                if (meet[a][way][b][row[b + 1]]) {
                    return null;
                }
            }
            row[0] += way == 4 ? names.get(in.get(a))[4] : way;
        }
        return row;
    }

    int set(int name) {
        if (!there(name)) {
            return -1;
        }
        int gore = names.get(name)[0];
        return setting(gore)[namesIn(gore).indexOf(name) + 1];
    }

    int cost(int gore) {
        return outside(gore, 0, n - 1) ? -1 : setting(gore)[0];
    }

    int told(int name, int what) {
        return there(name) && !outside(what, 0, 4) ? names.get(name)[what] : MIN;
    }

    boolean fresh(int gore) {
        return !outside(gore, 0, n - 1) && fresh[gore];
    }

    int edition() {
        editions++;
        int done = 0;
        for (int gore = 0; gore < n; gore++) {
            if (fresh[gore]) {
                done++;
                printed[gore] = editions;
                fresh[gore] = false;
            }
        }
        return done;
    }

    int printed(int gore) {
        return outside(gore, 0, n - 1) ? -1 : printed[gore];
    }

    int count(int what) {
        int thereNow = 0;
        for (int k = 0; k < names.size(); k++) {
            thereNow += struck[k] ? 0 : 1;
        }
        int freshNow = 0;
        for (boolean one : fresh) {
            freshNow += one ? 1 : 0;
        }
        int[] all = {n, coasts.size(), pieces.size(), thereNow, editions, freshNow};
        return outside(what, 0, 5) ? -1 : all[what];
    }
}
