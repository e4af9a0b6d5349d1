import java.util.ArrayList;

/**
 * A globe works: a map of the sphere cut into gores, with coasts, names, paper that grows
 * when wet, and editions. The words in capitals are those of the document's terms.
 */
public final class GlobeWorks {
    public static final int NONE = -1;

    private static final int NO_VALUE = -2147483648;

    private static final int FULL_TURN = 360;
    private static final int HALF_TURN = 180;
    private static final int POLE = 90;
    private static final int MINUTES = 60;
    private static final int HALF_DEGREE = 30;
    private static final int POLE_HEIGHT = POLE * MINUTES;

    private static final int THOUSAND = 1000;
    private static final int MOST_GROWTH = 50;
    private static final int MOST_ON_PAPER = 10000;

    private static final int MOST_COASTS = 30;
    private static final int MOST_PIECES = 600;
    private static final int MOST_NAMES = 60;
    private static final int MOST_NAMES_IN_GORE = 6;
    private static final int MOST_LETTERS = 20;
    private static final int MOST_PRICE = 99;
    private static final int LETTER_WIDTH = 40;
    private static final int LETTER_HEIGHT = 80;
    private static final int LEFT_OUT = 4;

    private static final int[] GORE_NUMBERS = {6, 8, 9, 10, 12, 15, 18, 20, 24};

    private static final int[] COS = {
        1000, 1000, 999, 999, 998, 996, 995, 993, 990, 988,
        985, 982, 978, 974, 970, 966, 961, 956, 951, 946,
        940, 934, 927, 921, 914, 906, 899, 891, 883, 875,
        866, 857, 848, 839, 829, 819, 809, 799, 788, 777,
        766, 755, 743, 731, 719, 707, 695, 682, 669, 656,
        643, 629, 616, 602, 588, 574, 559, 545, 530, 515,
        500, 485, 469, 454, 438, 423, 407, 391, 375, 358,
        342, 326, 309, 292, 276, 259, 242, 225, 208, 191,
        174, 156, 139, 122, 105, 87, 70, 52, 35, 17,
        0
    };

    private final int width;
    private final Gore[] gores;
    private final ArrayList<Coast> coasts = new ArrayList<>();
    private final ArrayList<Name> names = new ArrayList<>();
    private final Search search = new Search();
    private int pieceCount;
    private int growsAcross;
    private int growsAlong;
    private int editions;

    public GlobeWorks(int gores) {
        int number = goreNumber(gores);
        this.width = wholes(FULL_TURN, number);
        this.gores = new Gore[number];
        for (int k = 0; k < number; k++) {
            this.gores[k] = new Gore();
        }
    }

    public int narrow(int height) {
        return isHeight(height) ? narrowAt(height) : NONE;
    }

    public int across(int side, int height) {
        boolean known = side >= -width && side <= width && isHeight(height);
        return known ? xOf(side, height) : NO_VALUE;
    }

    public int coast(int longitude, int latitude) {
        if (!isPlace(longitude, latitude) || coasts.size() >= MOST_COASTS) {
            return NONE;
        }
        coasts.add(new Coast(longitude, latitude));
        return coasts.size() - 1;
    }

    public int to(int coast, int longitude, int latitude) {
        Coast going = coastOf(coast);
        if (going == null || !isPlace(longitude, latitude) || going.isAt(longitude, latitude)) {
            return NONE;
        }
        Step step = new Step(going, longitude, latitude);
        if (step.length == HALF_TURN) {
            return NONE;
        }
        int coming = piecesOf(step);
        if (pieceCount + coming > MOST_PIECES) {
            return NONE;
        }
        if (step.length == 0) {
            cutUpright(coast, step);
        } else {
            cutSlanting(coast, step, coming);
        }
        going.longitude = longitude;
        going.latitude = latitude;
        return coming;
    }

    public int pieces(int gore) {
        Gore asked = goreOf(gore);
        return asked == null ? NONE : asked.pieces.size();
    }

    public int piece(int gore, int i, int what) {
        if (what < 0 || what > 4) {
            return NONE;
        }
        Gore asked = goreOf(gore);
        if (asked == null || i < 0 || i >= asked.pieces.size()) {
            return what == 0 ? NONE : NO_VALUE;
        }
        Piece piece = asked.pieces.get(i);
        switch (what) {
            case 0:
                return piece.coast;
            case 1:
                return piece.beginSide;
            case 2:
                return piece.beginHeight;
            case 3:
                return piece.endSide;
            default:
                return piece.endHeight;
        }
    }

    public boolean paper(int across, int along) {
        if (!isGrowth(across) || !isGrowth(along)) {
            return false;
        }
        if (across == growsAcross && along == growsAlong) {
            return false;
        }
        growsAcross = across;
        growsAlong = along;
        for (Gore gore : gores) {
            gore.isFresh = true;
        }
        return true;
    }

    public int drawn(int v, int what) {
        return isOnPaper(v, what) ? roundBy(v * THOUSAND, grownThousand(what)) : NONE;
    }

    public int wet(int v, int what) {
        return isOnPaper(v, what) ? roundBy(v * grownThousand(what), THOUSAND) : NONE;
    }

    public int name(int longitude, int latitude, int letters, int price) {
        if (!isPlace(longitude, latitude) || letters < 1 || letters > MOST_LETTERS
                || price < 1 || price > MOST_PRICE || names.size() >= MOST_NAMES) {
            return NONE;
        }
        int number = wholes(longitude, width);
        Gore gore = goreOf(number);
        if (gore == null || gore.names.size() >= MOST_NAMES_IN_GORE) {
            return NONE;
        }
        int side = sideOf(longitude, number);
        int height = latitude * MINUTES;
        Name coming = new Name(number, side, height, xOf(side, height), letters, price);
        coming.ways = waysWithinEdges(coming);
        names.add(coming);
        gore.names.add(coming);
        changeNames(gore);
        return names.size() - 1;
    }

    public boolean strike(int name) {
        Name going = nameOf(name);
        if (going == null) {
            return false;
        }
        going.isStruck = true;
        Gore gore = goreOf(going.gore);
        if (gore != null) {
            gore.takeOut(going);
            changeNames(gore);
        }
        return true;
    }

    public boolean may(int name, int way) {
        Name asked = nameOf(name);
        return asked != null && asked.allows(way);
    }

    public int set(int name) {
        Name asked = nameOf(name);
        return asked == null ? NONE : asked.setWay;
    }

    public int cost(int gore) {
        Gore asked = goreOf(gore);
        return asked == null ? NONE : asked.settingCost;
    }

    public int told(int name, int what) {
        Name asked = nameOf(name);
        if (asked == null) {
            return NO_VALUE;
        }
        switch (what) {
            case 0:
                return asked.gore;
            case 1:
                return asked.side;
            case 2:
                return asked.height;
            case 3:
                return asked.letters;
            case 4:
                return asked.price;
            default:
                return NO_VALUE;
        }
    }

    public boolean fresh(int gore) {
        Gore asked = goreOf(gore);
        return asked != null && asked.isFresh;
    }

    public int edition() {
        editions++;
        int done = 0;
        for (Gore gore : gores) {
            if (gore.isFresh) {
                gore.isFresh = false;
                gore.lastEdition = editions;
                done++;
            }
        }
        return done;
    }

    public int printed(int gore) {
        Gore asked = goreOf(gore);
        return asked == null ? NONE : asked.lastEdition;
    }

    public int count(int what) {
        switch (what) {
            case 0:
                return gores.length;
            case 1:
                return coasts.size();
            case 2:
                return pieceCount;
            case 3:
                return namesThere();
            case 4:
                return editions;
            case 5:
                return freshGores();
            default:
                return NONE;
        }
    }

    private static int goreNumber(int wanted) {
        int number = 6;
        for (int k = 0; k < GORE_NUMBERS.length; k++) {
            if (GORE_NUMBERS[k] <= wanted) {
                number = GORE_NUMBERS[k];
            }
        }
        return number;
    }

    private static boolean isPlace(int longitude, int latitude) {
        return longitude >= 0 && longitude < FULL_TURN && latitude >= -POLE && latitude <= POLE;
    }

    private static boolean isHeight(int height) {
        return height >= -POLE_HEIGHT && height <= POLE_HEIGHT;
    }

    private static boolean isGrowth(int growth) {
        return growth >= 0 && growth <= MOST_GROWTH;
    }

    private static boolean isOnPaper(int v, int what) {
        return (what == 0 || what == 1) && v >= -MOST_ON_PAPER && v <= MOST_ON_PAPER;
    }

    private static int wholes(int p, int q) {
        return q > 0 ? Math.floorDiv(p, q) : 0;
    }

    private static int rest(int p, int q) {
        return q > 0 ? Math.floorMod(p, q) : 0;
    }

    private static int roundBy(int p, int q) {
        return wholes(2 * p + q, 2 * q);
    }

    private static int cosOf(int degrees) {
        return degrees >= 0 && degrees < COS.length ? COS[degrees] : 0;
    }

    private static int narrowAt(int height) {
        int unsigned = Math.abs(height);
        int degrees = unsigned / MINUTES;
        int over = unsigned % MINUTES;
        return (cosOf(degrees) * (MINUTES - over) + cosOf(degrees + 1) * over) / MINUTES;
    }

    private static int xOf(int side, int height) {
        return HALF_DEGREE * side * narrowAt(height) / THOUSAND;
    }

    private int grownThousand(int what) {
        return THOUSAND + (what == 0 ? growsAcross : growsAlong);
    }

    private Gore goreOf(int number) {
        return number >= 0 && number < gores.length ? gores[number] : null;
    }

    private Coast coastOf(int number) {
        return number >= 0 && number < coasts.size() ? coasts.get(number) : null;
    }

    private Name nameOf(int number) {
        if (number < 0 || number >= names.size()) {
            return null;
        }
        Name found = names.get(number);
        return found.isStruck ? null : found;
    }

    private int namesThere() {
        int there = 0;
        for (Gore gore : gores) {
            there += gore.names.size();
        }
        return there;
    }

    private int freshGores() {
        int found = 0;
        for (Gore gore : gores) {
            if (gore.isFresh) {
                found++;
            }
        }
        return found;
    }

    // An EDGE has SIDE -w in the GORE that begins there and w in the one that ends there,
    // so what a LONGITUDE is more than the GORE's begin is taken round the whole turn.
    private int sideOf(int longitude, int gore) {
        return 2 * rest(longitude - gore * width, FULL_TURN) - width;
    }

    // How far the begin of a STEP is from the EDGE behind it, in the way that it goes.
    private int goneFromEdge(Step step) {
        return rest(step.direction * step.longitude, width);
    }

    private int piecesOf(Step step) {
        int behind = goneFromEdge(step);
        if (step.length == 0) {
            return behind == 0 ? 2 : 1;
        }
        return wholes(behind + step.length + width - 1, width);
    }

    private void cutUpright(int coast, Step step) {
        int gore = wholes(step.longitude, width);
        layUpright(coast, step, gore);
        if (goneFromEdge(step) == 0) {
            layUpright(coast, step, rest(gore - 1, gores.length));
        }
    }

    private void layUpright(int coast, Step step, int gore) {
        int side = sideOf(step.longitude, gore);
        lay(gore, new Piece(coast, side, step.height, side, step.height + step.rise));
    }

    private void cutSlanting(int coast, Step step, int coming) {
        int behind = goneFromEdge(step);
        int first = wholes(step.longitude - step.direction * behind, width);
        if (step.direction < 0) {
            first--;
        }
        for (int k = 0; k < coming; k++) {
            int gore = rest(first + step.direction * k, gores.length);
            int from = Math.max(0, k * width - behind);
            int till = Math.min(step.length, (k + 1) * width - behind);
            lay(gore, new Piece(coast,
                    sideOf(step.longitudeAt(from), gore), step.heightAt(from),
                    sideOf(step.longitudeAt(till), gore), step.heightAt(till)));
        }
    }

    private void lay(int number, Piece piece) {
        Gore gore = goreOf(number);
        if (gore == null) {
            return;
        }
        gore.pieces.add(piece);
        gore.isFresh = true;
        pieceCount++;
    }

    private int waysWithinEdges(Name name) {
        int ways = 1 << LEFT_OUT;
        for (int way = 0; way < LEFT_OUT; way++) {
            int low = name.bottom(way);
            if (isWithinEdges(name, way, low) && isWithinEdges(name, way, low + LETTER_HEIGHT)) {
                ways |= 1 << way;
            }
        }
        return ways;
    }

    private boolean isWithinEdges(Name name, int way, int height) {
        if (!isHeight(height)) {
            return false;
        }
        int edge = xOf(width, height);
        return name.left(way) >= -edge && name.right(way) <= edge;
    }

    // The SETTING hangs on the NAMES of the GORE alone, so it is found once for each change.
    private void changeNames(Gore gore) {
        gore.isFresh = true;
        search.leastCost = MOST_NAMES_IN_GORE * MOST_PRICE + 1;
        tryWays(gore, search, 0, 0);
        for (int k = 0; k < gore.names.size() && k < search.best.length; k++) {
            gore.names.get(k).setWay = search.best[k];
        }
        gore.settingCost = search.leastCost;
    }

    // Ways are tried from the least on, so of like costs the first that is found stays.
    private static void tryWays(Gore gore, Search search, int depth, int costSoFar) {
        if (costSoFar >= search.leastCost) {
            return;
        }
        if (depth >= gore.names.size() || depth >= MOST_NAMES_IN_GORE) {
            search.keep(costSoFar);
            return;
        }
        Name name = gore.names.get(depth);
        for (int way = 0; way <= LEFT_OUT; way++) {
            if (name.allows(way) && isClear(name, way, gore, search, depth)) {
                search.trial[depth] = way;
                tryWays(gore, search, depth + 1, costSoFar + name.costOf(way));
            }
        }
    }

    private static boolean isClear(Name name, int way, Gore gore, Search search, int depth) {
        for (int k = 0; k < depth && k < gore.names.size(); k++) {
            if (name.covers(way, gore.names.get(k), search.wayOf(k))) {
                return false;
            }
        }
        return true;
    }

    /** What is laid in one GORE, and when it was printed. */
    private static final class Gore {
        final ArrayList<Piece> pieces = new ArrayList<>();
        final ArrayList<Name> names = new ArrayList<>();
        int settingCost;
        boolean isFresh = true;
        int lastEdition;

        void takeOut(Name name) {
            for (int k = 0; k < names.size(); k++) {
                if (names.get(k) == name) {
                    names.remove(k);
                    return;
                }
            }
        }
    }

    /** A COAST is known by the PLACE to which it has come. */
    private static final class Coast {
        int longitude;
        int latitude;

        Coast(int longitude, int latitude) {
            this.longitude = longitude;
            this.latitude = latitude;
        }

        boolean isAt(int otherLongitude, int otherLatitude) {
            return longitude == otherLongitude && latitude == otherLatitude;
        }
    }

    /** A STEP by the shorter way: direction 1 goes to greater LONGITUDES, -1 to lesser ones. */
    private static final class Step {
        final int longitude;
        final int height;
        final int rise;
        final int length;
        final int direction;

        Step(Coast from, int toLongitude, int toLatitude) {
            longitude = from.longitude;
            height = from.latitude * MINUTES;
            rise = (toLatitude - from.latitude) * MINUTES;
            int turn = rest(toLongitude - from.longitude, FULL_TURN);
            direction = turn <= HALF_TURN ? 1 : -1;
            length = Math.min(turn, FULL_TURN - turn);
        }

        int longitudeAt(int gone) {
            return longitude + direction * gone;
        }

        int heightAt(int gone) {
            return height + roundBy(rise * gone, length);
        }
    }

    /** A PIECE of a COAST within one GORE. */
    private static final class Piece {
        final int coast;
        final int beginSide;
        final int beginHeight;
        final int endSide;
        final int endHeight;

        Piece(int coast, int beginSide, int beginHeight, int endSide, int endHeight) {
            this.coast = coast;
            this.beginSide = beginSide;
            this.beginHeight = beginHeight;
            this.endSide = endSide;
            this.endHeight = endHeight;
        }
    }

    /** A NAME; its ways are bits: those in which it may be SET by the EDGES alone. */
    private static final class Name {
        final int gore;
        final int side;
        final int height;
        final int x;
        final int letters;
        final int price;
        int ways;
        int setWay;
        boolean isStruck;

        Name(int gore, int side, int height, int x, int letters, int price) {
            this.gore = gore;
            this.side = side;
            this.height = height;
            this.x = x;
            this.letters = letters;
            this.price = price;
        }

        boolean allows(int way) {
            return way >= 0 && way <= LEFT_OUT && (ways >> way & 1) == 1;
        }

        int costOf(int way) {
            return way == LEFT_OUT ? price : way;
        }

        int left(int way) {
            return way == 1 || way == 3 ? x - LETTER_WIDTH * letters : x;
        }

        int right(int way) {
            return left(way) + LETTER_WIDTH * letters;
        }

        int bottom(int way) {
            return way == 2 || way == 3 ? height - LETTER_HEIGHT : height;
        }

        boolean covers(int way, Name other, int otherWay) {
            if (way == LEFT_OUT || otherWay == LEFT_OUT) {
                return false;
            }
            return left(way) < other.right(otherWay) && other.left(otherWay) < right(way)
                    && Math.abs(bottom(way) - other.bottom(otherWay)) < LETTER_HEIGHT;
        }
    }

    /** The rows of one search for a SETTING, kept to be used again. */
    private static final class Search {
        final int[] trial = new int[MOST_NAMES_IN_GORE];
        final int[] best = new int[MOST_NAMES_IN_GORE];
        int leastCost;

        int wayOf(int k) {
            return k >= 0 && k < trial.length ? trial[k] : LEFT_OUT;
        }

        void keep(int cost) {
            System.arraycopy(trial, 0, best, 0, best.length);
            leastCost = cost;
        }
    }
}
