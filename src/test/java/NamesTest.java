/** Promises 11 to 16: name, strike, may, set, cost, told. */
public final class NamesTest {
    public static void main(String[] args) {
        namesAreNumberedAndTold();
        nameOnAnEdgeIsInTheGoreThatBegins();
        wrongNames();
        sixNamesInAGore();
        sixtyNames();
        strikes();
        waysByEdges();
        waysAtExactEdge();
        waysAtThePoles();
        waysOfNone();
        settingOfNamesApart();
        touchingIsNoOverlap();
        cheapestIsToLeaveOut();
        dearestSetting();
        likeCostsTakeLeastWays();
        namesOfOtherGoresDoNotMatter();
        settingFollowsTheNames();
        costOfWrongGores();
        Check.end();
    }

    private static void dueTold(GlobeWorks works, int name, int... due) {
        for (int what = 0; what < 5; what++) {
            Check.due("told " + name + ", " + what, works.told(name, what), due[what]);
        }
    }

    private static void dueMay(GlobeWorks works, int name, String due) {
        for (int way = 0; way < 5; way++) {
            Check.due("may " + name + ", " + way, works.may(name, way), due.charAt(way) == '1');
        }
    }

    private static void dueSet(GlobeWorks works, int first, int... due) {
        for (int k = 0; k < due.length; k++) {
            Check.due("set " + (first + k), works.set(first + k), due[k]);
        }
    }

    private static void namesAreNumberedAndTold() {
        GlobeWorks works = new GlobeWorks(8);
        Check.due("first", works.name(20, -7, 1, 99), 0);
        Check.due("second", works.name(359, 90, 20, 1), 1);
        Check.due("third", works.name(180, -90, 5, 50), 2);
        dueTold(works, 0, 0, -5, -420, 1, 99);
        dueTold(works, 1, 7, 43, 5400, 20, 1);
        dueTold(works, 2, 4, -45, -5400, 5, 50);
        Check.due("count", works.count(3), 3);
        int[] others = {-1, 5, Check.MIN, Check.MAX};
        for (int what : others) {
            Check.due("told what " + what, works.told(0, what), Check.MIN);
        }
        int[] missing = {-1, 3, Check.MIN, Check.MAX};
        for (int name : missing) {
            for (int what = -1; what < 6; what++) {
                Check.due("told of none " + what, works.told(name, what), Check.MIN);
            }
        }
    }

    private static void nameOnAnEdgeIsInTheGoreThatBegins() {
        GlobeWorks works = new GlobeWorks(24);
        for (int gore = 0; gore < 24; gore++) {
            Check.due("name", works.name(15 * gore, 0, 1, 1), gore * 2);
            Check.due("name", works.name(15 * gore + 14, 0, 1, 1), gore * 2 + 1);
            dueTold(works, gore * 2, gore, -15, 0, 1, 1);
            dueTold(works, gore * 2 + 1, gore, 13, 0, 1, 1);
        }
    }

    private static void wrongNames() {
        GlobeWorks works = new GlobeWorks(6);
        works.edition();
        int[][] wrong = {{-1, 0, 1, 1}, {360, 0, 1, 1}, {0, 91, 1, 1}, {0, -91, 1, 1},
            {0, 0, 0, 1}, {0, 0, 21, 1}, {0, 0, -1, 1}, {0, 0, 1, 0}, {0, 0, 1, 100}, {0, 0, 1, -1},
            {Check.MIN, 0, 1, 1}, {Check.MAX, 0, 1, 1}, {0, Check.MIN, 1, 1}, {0, Check.MAX, 1, 1},
            {0, 0, Check.MIN, 1}, {0, 0, Check.MAX, 1}, {0, 0, 1, Check.MIN}, {0, 0, 1, Check.MAX}};
        for (int[] of : wrong) {
            Check.due("name", works.name(of[0], of[1], of[2], of[3]), -1);
        }
        Check.due("count", works.count(3), 0);
        Check.due("fresh", works.count(5), 0);
        Check.due("the first has number 0", works.name(0, 0, 20, 99), 0);
    }

    private static void sixNamesInAGore() {
        GlobeWorks works = new GlobeWorks(6);
        for (int k = 0; k < 6; k++) {
            Check.due("name " + k, works.name(30, 10 * k, 1, 5), k);
        }
        works.edition();
        Check.due("a seventh", works.name(30, 80, 1, 5), -1);
        Check.due("not fresh", works.count(5), 0);
        Check.due("count", works.count(3), 6);
        Check.due("in another gore", works.name(60, 80, 1, 5), 6);
        Check.due("strike", works.strike(2), true);
        Check.due("room again", works.name(59, 80, 1, 5), 7);
        Check.due("full again", works.name(59, 80, 1, 5), -1);
        Check.due("count", works.count(3), 7);
    }

    private static void sixtyNames() {
        GlobeWorks works = new GlobeWorks(6);
        for (int k = 0; k < 60; k++) {
            Check.due("name " + k, works.name(k, 0, 1, 5), k);
            if (k % 3 == 0) {
                continue;
            }
            Check.due("strike " + k, works.strike(k), true);
            if (k % 12 == 11) {
                for (int old = k - 11; old <= k; old += 3) {
                    Check.due("strike " + old, works.strike(old), true);
                }
            }
        }
        Check.due("none there", works.count(3), 0);
        Check.due("60 came", works.name(100, 0, 1, 5), -1);
        Check.due("none there", works.count(3), 0);
    }

    private static void strikes() {
        GlobeWorks works = new GlobeWorks(6);
        works.name(30, 0, 1, 5);
        works.name(30, 0, 1, 5);
        works.edition();
        int[] missing = {-1, 2, Check.MIN, Check.MAX};
        for (int name : missing) {
            Check.due("strike " + name, works.strike(name), false);
        }
        Check.due("nothing fresh", works.count(5), 0);
        Check.due("strike 0", works.strike(0), true);
        Check.due("strike 0 again", works.strike(0), false);
        Check.due("count", works.count(3), 1);
        Check.due("set of the struck one", works.set(0), -1);
        for (int what = 0; what < 5; what++) {
            Check.due("told of the struck one", works.told(0, what), Check.MIN);
        }
        dueMay(works, 0, "00000");
        dueTold(works, 1, 0, 0, 0, 1, 5);
        Check.due("number of the next", works.name(30, 0, 1, 5), 2);
    }

    private static void waysByEdges() {
        GlobeWorks works = new GlobeWorks(12);
        works.name(15, 0, 20, 9);
        dueMay(works, 0, "11111");
        works.name(1, 0, 2, 9);
        dueMay(works, 1, "10101");
        works.name(29, 0, 2, 9);
        dueMay(works, 2, "01011");
        // wider than from the middle to the edge: 900 at height 0
        works.name(17, 0, 20, 9);
        dueMay(works, 3, "01011");
        // 440 wide; the edge is at 450 at 60 degrees, at 431 where it is 80 higher
        works.name(45, 60, 11, 9);
        dueMay(works, 4, "00111");
        works.name(45, -60, 12, 9);
        dueMay(works, 5, "00001");
    }

    private static void waysAtExactEdge() {
        GlobeWorks works = new GlobeWorks(6);
        // at height 0 the edge is at 1800, and as far at 80 only if NARROW were still 1000
        // NARROW of 80 is 999: 1798; of -80 the same
        works.name(0, 0, 20, 9);
        Check.due("x", works.across(-60, 0), -1800);
        dueMay(works, 0, "00001");
        // lon 4: side -52, x -1560; the right corner -1560 and 40 is within
        works.name(4, 0, 6, 9);
        dueMay(works, 1, "10101");
        // side 48: x 1440; 9 letters reach 1800, farther than 1798
        works.name(54, 0, 9, 9);
        dueMay(works, 2, "01011");
        works.name(54, 0, 8, 9);
        dueMay(works, 3, "11111");
        // side -58 at -56 degrees: x -972; 80 lower NARROW is 540, and the edge just as far
        works.name(1, -56, 1, 9);
        Check.due("x", works.across(-58, -3360), -972);
        Check.due("edge", works.across(-60, -3440), -972);
        dueMay(works, 4, "10101");
        GlobeWorks flat = new GlobeWorks(18);
        // at 60 degrees: edge 20 * 30 * 500 by 1000 is 300, side 0 is at 0;
        // at 3680 NARROW is 479: 287; at 3520 it is 520: 312
        flat.name(10, 60, 7, 9);
        dueMay(flat, 0, "11111");
        flat.name(10, 60, 8, 9);
        dueMay(flat, 1, "00001");
        GlobeWorks exact = new GlobeWorks(24);
        // height -60: edge at 450, at 20 also: NARROW is 1000; side 7 is at 210, 6 letters reach 450
        exact.name(11, -1, 6, 9);
        Check.due("x", exact.across(7, -60), 210);
        Check.due("edge", exact.across(15, 20), 450);
        Check.due("edge below", exact.across(15, -140), 449);
        dueMay(exact, 0, "11011");
        exact.name(4, -1, 6, 9);
        Check.due("x", exact.across(-7, -60), -210);
        dueMay(exact, 1, "11101");
        exact.name(11, -1, 7, 9);
        dueMay(exact, 2, "01011");
    }

    private static void waysAtThePoles() {
        GlobeWorks works = new GlobeWorks(6);
        works.name(30, 90, 1, 9);
        dueMay(works, 0, "00001");
        works.name(30, -90, 1, 9);
        dueMay(works, 1, "00001");
        works.name(30, 89, 1, 9);
        dueMay(works, 2, "00001");
        works.name(30, 88, 1, 9);
        dueMay(works, 3, "00111");
        works.name(30, -88, 1, 9);
        dueMay(works, 4, "11001");
        works.name(30, 87, 1, 9);
        dueMay(works, 5, "11111");
    }

    private static void waysOfNone() {
        GlobeWorks works = new GlobeWorks(6);
        works.name(30, 0, 1, 9);
        dueMay(works, 1, "00000");
        dueMay(works, -1, "00000");
        int[] ways = {-1, 5, 31, 32, 36, -28, Check.MIN, Check.MAX};
        for (int way : ways) {
            Check.due("may " + way, works.may(0, way), false);
        }
        Check.due("set of none", works.set(1), -1);
        Check.due("set of none", works.set(-1), -1);
        Check.due("set of none", works.set(Check.MIN), -1);
        Check.due("set of none", works.set(Check.MAX), -1);
    }

    private static void settingOfNamesApart() {
        GlobeWorks works = new GlobeWorks(6);
        for (int k = 0; k < 6; k++) {
            works.name(30, 10 * k, 2, 1);
        }
        dueSet(works, 0, 0, 0, 0, 0, 0, 0);
        Check.due("cost", works.cost(0), 0);
    }

    private static void touchingIsNoOverlap() {
        GlobeWorks works = new GlobeWorks(6);
        // at height 0: side 0 is at 0, side 4 at 120, 3 letters wide
        works.name(30, 0, 3, 50);
        works.name(32, 0, 3, 50);
        dueSet(works, 0, 0, 0);
        works.name(33, 0, 3, 50);
        // 180 .. 300 lies over 120 .. 240, and so does 60 .. 180: it goes below
        dueSet(works, 0, 0, 0, 2);
        Check.due("cost", works.cost(0), 2);
        GlobeWorks above = new GlobeWorks(6);
        // one degree is 60: less than 80, so the second lies over the first
        above.name(30, 0, 3, 50);
        above.name(30, 1, 3, 50);
        dueSet(above, 0, 0, 1);
        Check.due("cost", above.cost(0), 1);
        GlobeWorks two = new GlobeWorks(6);
        two.name(30, 0, 3, 50);
        two.name(30, 2, 3, 50);
        dueSet(two, 0, 0, 0);
    }

    private static void cheapestIsToLeaveOut() {
        GlobeWorks works = new GlobeWorks(6);
        for (int k = 0; k < 6; k++) {
            works.name(30, 0, 4, 1 + k);
        }
        // four places with 0, 1, 2, 3: the dear ones are set, the cheap ones left out
        // prices 1 .. 6: leaving out 1, 2 and 3 costs 6, then 0 + 1 + 2
        Check.due("cost", works.cost(0), 9);
        dueSet(works, 0, 4, 4, 0, 1, 2, 3);
    }

    private static void dearestSetting() {
        GlobeWorks works = new GlobeWorks(6);
        for (int k = 0; k < 6; k++) {
            works.name(30, 90, 20, 99);
        }
        dueSet(works, 0, 4, 4, 4, 4, 4, 4);
        Check.due("cost", works.cost(0), 594);
    }

    private static void likeCostsTakeLeastWays() {
        GlobeWorks works = new GlobeWorks(6);
        works.name(30, 0, 4, 1);
        works.name(30, 0, 4, 1);
        // 0 and 1 cost as much as 0 and 4, 1 and 0, 4 and 0
        dueSet(works, 0, 0, 1);
        Check.due("cost", works.cost(0), 1);
        works.name(30, 0, 4, 1);
        dueSet(works, 0, 0, 1, 4);
        Check.due("cost", works.cost(0), 2);
        works.name(30, 0, 4, 3);
        // as cheap: 1 4 4 0, 4 4 4 0
        dueSet(works, 0, 0, 4, 4, 1);
        Check.due("cost", works.cost(0), 3);
    }

    private static void namesOfOtherGoresDoNotMatter() {
        GlobeWorks works = new GlobeWorks(6);
        works.name(29, 0, 4, 9);
        works.name(89, 0, 4, 9);
        works.name(149, 0, 4, 9);
        dueSet(works, 0, 0, 0, 0);
        works.name(89, 0, 4, 9);
        dueSet(works, 0, 0, 0, 0, 1);
        Check.due("cost 0", works.cost(0), 0);
        Check.due("cost 1", works.cost(1), 1);
        Check.due("cost 2", works.cost(2), 0);
    }

    private static void settingFollowsTheNames() {
        GlobeWorks works = new GlobeWorks(6);
        works.name(30, 0, 4, 9);
        works.name(30, 0, 4, 9);
        works.name(30, 0, 4, 9);
        dueSet(works, 0, 0, 1, 2);
        works.strike(0);
        dueSet(works, 0, -1, 0, 1);
        Check.due("cost", works.cost(0), 1);
        works.name(30, 0, 4, 9);
        dueSet(works, 0, -1, 0, 1, 2);
        works.strike(2);
        dueSet(works, 0, -1, 0, -1, 1);
        works.strike(1);
        works.strike(3);
        Check.due("cost of none", works.cost(0), 0);
    }

    private static void costOfWrongGores() {
        GlobeWorks works = new GlobeWorks(6);
        works.name(0, 0, 20, 99);
        Check.due("cost", works.cost(0), 99);
        int[] gores = {-1, 6, Check.MIN, Check.MAX};
        for (int gore : gores) {
            Check.due("cost " + gore, works.cost(gore), -1);
        }
    }
}
