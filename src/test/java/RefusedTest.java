import java.util.Arrays;

/**
 * "What is refused changes nothing." Each call that is refused is made on one of two objects
 * with the same history; then both are asked everything, go on in the same way, and are
 * asked again: their answers must be the same ones.
 */
public final class RefusedTest {
    private static final int FULL_COASTS = 1;
    private static final int FULL_PIECES = 2;
    private static final int FULL_GORE = 3;
    private static final int FULL_NAMES = 4;

    /** The state that the call is made in (0: an ordinary one), its kind, and its arguments. */
    private static final int[][] COASTS = {
        {0, -1, 0}, {0, 360, 0}, {0, 0, 91}, {0, 0, -91}, {0, Check.MIN, 0}, {0, Check.MAX, 0},
        {0, 0, Check.MIN}, {0, 0, Check.MAX}, {FULL_COASTS, 7, 7}
    };
    private static final int[][] STEPS = {
        {0, 2, 20, 20}, {0, -1, 20, 20}, {0, Check.MIN, 20, 20}, {0, Check.MAX, 20, 20},
        {0, 0, -1, 0}, {0, 0, 360, 0}, {0, 0, 0, 91}, {0, 0, 0, -91}, {0, 0, Check.MIN, 0},
        {0, 0, Check.MAX, 0}, {0, 0, 0, Check.MIN}, {0, 0, 0, Check.MAX},
        {0, 0, 70, 20}, {0, 1, 60, -10}, {0, 0, 250, 20}, {0, 0, 250, -3}, {0, 1, 240, 5},
        {FULL_PIECES, 0, 190, 0}, {FULL_PIECES, 0, 240, 20}, {FULL_PIECES, 1, 239, 7}
    };
    private static final int[][] PAPERS = {
        {0, 5, 7}, {0, -1, 7}, {0, 51, 7}, {0, 5, -1}, {0, 5, 51}, {0, Check.MIN, 0},
        {0, Check.MAX, 0}, {0, 0, Check.MIN}, {0, 0, Check.MAX}, {0, -1, 51}
    };
    private static final int[][] NAMES = {
        {0, -1, 0, 1, 1}, {0, 360, 0, 1, 1}, {0, 0, 91, 1, 1}, {0, 0, -91, 1, 1}, {0, 0, 0, 0, 1},
        {0, 0, 0, 21, 1}, {0, 0, 0, 1, 0}, {0, 0, 0, 1, 100}, {0, Check.MIN, 0, 1, 1},
        {0, Check.MAX, 0, 1, 1}, {0, 0, Check.MIN, 1, 1}, {0, 0, Check.MAX, 1, 1},
        {0, 0, 0, Check.MIN, 1}, {0, 0, 0, Check.MAX, 1}, {0, 0, 0, 1, Check.MIN},
        {0, 0, 0, 1, Check.MAX}, {FULL_GORE, 30, 0, 2, 9}, {FULL_GORE, 0, 0, 1, 99},
        {FULL_NAMES, 100, 0, 2, 9}
    };
    private static final int[][] STRIKES = {
        {0, 1}, {0, -1}, {0, 5}, {0, Check.MIN}, {0, Check.MAX}, {FULL_NAMES, 60}
    };

    public static void main(String[] args) {
        Check.sentence("What is refused changes nothing. (coast)");
        for (int[] call : COASTS) {
            refused(call, 0);
        }
        Check.sentence("What is refused changes nothing. (to)");
        for (int[] call : STEPS) {
            refused(call, 1);
        }
        Check.sentence("What is refused changes nothing. (paper)");
        for (int[] call : PAPERS) {
            refused(call, 2);
        }
        Check.sentence("What is refused changes nothing. (name)");
        for (int[] call : NAMES) {
            refused(call, 3);
        }
        Check.sentence("What is refused changes nothing. (strike)");
        for (int[] call : STRIKES) {
            refused(call, 4);
        }
        Check.sentence("What is asked changes nothing.");
        asked();
        Check.end();
    }

    private static GlobeWorks made(int state) {
        GlobeWorks works = new GlobeWorks(6);
        works.paper(5, 7);
        works.coast(10, 10);
        works.coast(60, 0);
        works.to(0, 70, 20);
        works.to(1, 60, -10);
        works.name(30, 0, 3, 9);
        works.name(30, 0, 3, 9);
        works.name(30, 0, 3, 2);
        works.name(359, 88, 1, 5);
        works.strike(1);
        if (state == FULL_COASTS) {
            for (int k = 2; k < 30; k++) {
                works.coast(k, k);
            }
        } else if (state == FULL_PIECES) {
            // 3 pieces each, with those from before 598: 3 more would be too many
            for (int k = 0; k < 198; k++) {
                works.to(0, k % 2 == 0 ? 240 : 70, 20);
            }
            Check.due("all but full", works.count(2), 598);
        } else if (state == FULL_GORE) {
            for (int k = 0; k < 4; k++) {
                works.name(k * 10, 0, 3, 9);
            }
        } else if (state == FULL_NAMES) {
            for (int k = 4; k < 60; k++) {
                works.name(300, 0, 1, 1);
                works.strike(k);
            }
        }
        works.edition();
        works.name(200, 0, 1, 1);
        return works;
    }

    private static int call(GlobeWorks works, int kind, int[] with) {
        switch (kind) {
            case 0: return works.coast(with[1], with[2]);
            case 1: return works.to(with[1], with[2], with[3]);
            case 2: return works.paper(with[1], with[2]) ? 1 : -1;
            case 3: return works.name(with[1], with[2], with[3], with[4]);
            default: return works.strike(with[1]) ? 1 : -1;
        }
    }

    private static void refused(int[] with, int kind) {
        GlobeWorks works = made(with[0]);
        GlobeWorks twin = made(with[0]);
        String what = "kind " + kind + " with " + Arrays.toString(with);
        Check.due(what, call(works, kind, with), -1);
        Check.due("asked after " + what, answers(works), answers(twin));
        Check.due("going on after " + what, goOn(works), goOn(twin));
    }

    private static String answers(GlobeWorks works) {
        StringBuilder said = new StringBuilder();
        for (int what = 0; what < 6; what++) {
            said.append(works.count(what)).append(' ');
        }
        for (int gore = 0; gore < 6; gore++) {
            int last = works.pieces(gore) - 1;
            said.append("| ").append(last).append(' ').append(works.cost(gore)).append(' ')
                    .append(works.fresh(gore)).append(' ').append(works.printed(gore)).append(' ');
            for (int what = 0; what < 5; what++) {
                said.append(works.piece(gore, last, what)).append(' ');
            }
        }
        for (int name = 0; name < 5; name++) {
            said.append("| ").append(works.set(name)).append(' ');
            for (int what = 0; what < 5; what++) {
                said.append(works.told(name, what)).append(works.may(name, what)).append(' ');
            }
        }
        said.append("| ").append(works.drawn(1000, 0)).append(' ').append(works.drawn(1000, 1));
        said.append(' ').append(works.wet(1000, 0)).append(' ').append(works.wet(1000, 1));
        return said.toString();
    }

    private static String goOn(GlobeWorks works) {
        StringBuilder said = new StringBuilder();
        said.append(works.edition()).append(' ');
        said.append(works.coast(100, 0)).append(' ');
        said.append(works.to(0, 111, 33)).append(' ');
        said.append(works.to(1, 62, 5)).append(' ');
        said.append(works.name(31, 0, 2, 4)).append(' ');
        said.append(works.name(150, 0, 2, 4)).append(' ');
        said.append(works.strike(0)).append(' ');
        said.append(works.paper(5, 8)).append(' ');
        said.append(answers(works));
        return said.toString();
    }

    private static void asked() {
        GlobeWorks works = made(0);
        GlobeWorks twin = made(0);
        int[] with = {Check.MIN, -1, 0, 6, Check.MAX};
        for (int a : with) {
            works.narrow(a);
            works.pieces(a);
            works.set(a);
            works.cost(a);
            works.fresh(a);
            works.printed(a);
            works.count(a);
            for (int b = -1; b < 6; b++) {
                works.across(a, b);
                works.piece(0, a, b);
                works.drawn(a, b);
                works.wet(a, b);
                works.may(a, b);
                works.told(a, b);
            }
        }
        Check.due("asked again", answers(works), answers(twin));
        Check.due("going on", goOn(works), goOn(twin));
    }
}
