/** Promises 1 to 3: a new object, narrow, across. */
public final class GoresTest {
    private static final int[] NUMBERS = {6, 8, 9, 10, 12, 15, 18, 20, 24};

    public static void main(String[] args) {
        numbersOfGores();
        newObjectIsEmpty();
        narrowOfEveryHeight();
        narrowOfWrongHeights();
        acrossIsCutTowardsZero();
        acrossOfEverySide();
        acrossOfWrongInputs();
        Check.end();
    }

    private static int greatestNotAbove(int wanted) {
        int found = 6;
        for (int number : NUMBERS) {
            if (number <= wanted) {
                found = number;
            }
        }
        return found;
    }

    private static void numbersOfGores() {
        for (int wanted = -10; wanted <= 40; wanted++) {
            int due = greatestNotAbove(wanted);
            GlobeWorks works = new GlobeWorks(wanted);
            Check.due("gores " + wanted, works.count(0), due);
            Check.due("last gore of " + wanted, works.pieces(due - 1), 0);
            Check.due("none behind it of " + wanted, works.pieces(due), -1);
        }
        Check.due("gores 7", new GlobeWorks(7).count(0), 6);
        Check.due("gores 11", new GlobeWorks(11).count(0), 10);
        Check.due("gores 14", new GlobeWorks(14).count(0), 12);
        Check.due("gores 23", new GlobeWorks(23).count(0), 20);
        Check.due("gores MIN", new GlobeWorks(Check.MIN).count(0), 6);
        Check.due("gores MAX", new GlobeWorks(Check.MAX).count(0), 24);
    }

    private static void newObjectIsEmpty() {
        GlobeWorks works = new GlobeWorks(9);
        Check.due("coasts", works.count(1), 0);
        Check.due("pieces", works.count(2), 0);
        Check.due("names", works.count(3), 0);
        Check.due("editions", works.count(4), 0);
        Check.due("fresh gores", works.count(5), 9);
        for (int gore = 0; gore < 9; gore++) {
            Check.due("fresh " + gore, works.fresh(gore), true);
            Check.due("printed " + gore, works.printed(gore), 0);
            Check.due("pieces " + gore, works.pieces(gore), 0);
            Check.due("cost " + gore, works.cost(gore), 0);
        }
        Check.due("to", works.to(0, 1, 1), -1);
        Check.due("set", works.set(0), -1);
        Check.due("strike", works.strike(0), false);
        Check.due("drawn", works.drawn(777, 0), 777);
        Check.due("wet", works.wet(-777, 1), -777);
    }

    private static long cos(int degrees) {
        return degrees > 90 ? 0 : Math.round(1000 * Math.cos(Math.toRadians(degrees)));
    }

    private static long narrowDue(int height) {
        int unsigned = height < 0 ? -height : height;
        int degrees = unsigned / 60;
        int over = unsigned - 60 * degrees;
        return (cos(degrees) * (60 - over) + cos(degrees + 1) * over) / 60;
    }

    private static void narrowOfEveryHeight() {
        GlobeWorks works = new GlobeWorks(12);
        for (int height = -5400; height <= 5400; height++) {
            Check.due("narrow " + height, works.narrow(height), narrowDue(height));
        }
        Check.due("narrow 0", works.narrow(0), 1000);
        Check.due("narrow 61", works.narrow(61), 999);
        Check.due("narrow 2700", works.narrow(2700), 707);
        Check.due("narrow -2730", works.narrow(-2730), 701);
        Check.due("narrow 5340", works.narrow(5340), 17);
        Check.due("narrow 5397", works.narrow(5397), 0);
        Check.due("narrow -5396", works.narrow(-5396), 1);
        Check.due("narrow -5400", works.narrow(-5400), 0);
    }

    private static void narrowOfWrongHeights() {
        GlobeWorks works = new GlobeWorks(12);
        int[] wrong = {5401, -5401, 5460, -5460, 10000, Check.MIN, Check.MIN + 1, Check.MAX};
        for (int height : wrong) {
            Check.due("narrow " + height, works.narrow(height), -1);
        }
    }

    private static void acrossIsCutTowardsZero() {
        GlobeWorks works = new GlobeWorks(12);
        Check.due("across 30, 3601", works.across(30, 3601), 449);
        Check.due("across -30, 3601", works.across(-30, 3601), -449);
        Check.due("across 1, 5340", works.across(1, 5340), 0);
        Check.due("across -1, 5340", works.across(-1, 5340), 0);
        Check.due("across 2, 5340", works.across(2, 5340), 1);
        Check.due("across -2, -5340", works.across(-2, -5340), -1);
        Check.due("across 0, 0", works.across(0, 0), 0);
        Check.due("across -30, 5400", works.across(-30, 5400), 0);
    }

    private static void acrossOfEverySide() {
        for (int number : NUMBERS) {
            GlobeWorks works = new GlobeWorks(number);
            int width = 360 / number;
            for (int side = -width; side <= width; side++) {
                for (int height = -5400; height <= 5400; height += 90) {
                    long size = 30L * Math.abs(side) * narrowDue(height) / 1000;
                    Check.due("across " + side + ", " + height + " of " + number,
                            works.across(side, height), side < 0 ? -size : size);
                }
            }
        }
    }

    private static void acrossOfWrongInputs() {
        for (int number : NUMBERS) {
            GlobeWorks works = new GlobeWorks(number);
            int width = 360 / number;
            int[] sides = {width + 1, -width - 1, width + 2, -width - 2, Check.MIN, Check.MAX};
            for (int side : sides) {
                Check.due("across " + side + ", 0 of " + number, works.across(side, 0), Check.MIN);
            }
            int[] heights = {5401, -5401, Check.MIN, Check.MAX};
            for (int height : heights) {
                Check.due("across " + width + ", " + height, works.across(width, height), Check.MIN);
            }
        }
    }
}
