/** Promises 8 to 10: paper, drawn, wet. */
public final class PaperTest {
    public static void main(String[] args) {
        paperChanges();
        paperOutsideItsBounds();
        acrossAndAlongAreApart();
        halvesGoUp();
        everyValue();
        wrongInputs();
        Check.end();
    }

    private static void paperChanges() {
        GlobeWorks works = new GlobeWorks(6);
        Check.due("0, 0 is so already", works.paper(0, 0), false);
        Check.due("0, 1", works.paper(0, 1), true);
        Check.due("0, 1 again", works.paper(0, 1), false);
        Check.due("1, 1", works.paper(1, 1), true);
        Check.due("1, 0", works.paper(1, 0), true);
        Check.due("0, 0", works.paper(0, 0), true);
        Check.due("50, 50", works.paper(50, 50), true);
        Check.due("50, 50 again", works.paper(50, 50), false);
    }

    private static void paperOutsideItsBounds() {
        GlobeWorks works = new GlobeWorks(6);
        works.paper(10, 20);
        works.edition();
        int[] wrong = {-1, 51, Check.MIN, Check.MAX};
        for (int growth : wrong) {
            Check.due("paper " + growth + ", 0", works.paper(growth, 0), false);
            Check.due("paper 0, " + growth, works.paper(0, growth), false);
            Check.due("paper " + growth + " twice", works.paper(growth, growth), false);
        }
        Check.due("none fresh", works.count(5), 0);
        Check.due("across as before", works.wet(1000, 0), 1010);
        Check.due("along as before", works.wet(1000, 1), 1020);
    }

    private static void acrossAndAlongAreApart() {
        GlobeWorks works = new GlobeWorks(6);
        works.paper(50, 10);
        Check.due("drawn x", works.drawn(1050, 0), 1000);
        Check.due("drawn y", works.drawn(1010, 1), 1000);
        Check.due("wet x", works.wet(1000, 0), 1050);
        Check.due("wet y", works.wet(1000, 1), 1010);
        Check.due("greatest x", works.drawn(10000, 0), 9524);
        Check.due("least x", works.drawn(-10000, 0), -9524);
        Check.due("greatest wet x", works.wet(10000, 0), 10500);
        Check.due("least wet y", works.wet(-10000, 1), -10100);
    }

    private static void halvesGoUp() {
        GlobeWorks works = new GlobeWorks(6);
        works.paper(50, 8);
        // 10 * 1050 by 1000 is 10.5
        Check.due("wet 10", works.wet(10, 0), 11);
        Check.due("wet -10", works.wet(-10, 0), -10);
        Check.due("wet 30", works.wet(30, 0), 32);
        Check.due("wet -30", works.wet(-30, 0), -31);
        // 63 * 1000 by 1008 is 62.5
        Check.due("drawn 63", works.drawn(63, 1), 63);
        Check.due("drawn -63", works.drawn(-63, 1), -62);
    }

    private static long roundDue(long p, long q) {
        long found = p / q - 2;
        while (2 * q * (found + 1) <= 2 * p + q) {
            found++;
        }
        return found;
    }

    private static void everyValue() {
        GlobeWorks works = new GlobeWorks(6);
        for (int growth = 0; growth <= 50; growth++) {
            works.paper(growth, 50 - growth);
            for (int v = -10000; v <= 10000; v += 37) {
                Check.due("drawn x", works.drawn(v, 0), roundDue(1000L * v, 1000 + growth));
                Check.due("drawn y", works.drawn(v, 1), roundDue(1000L * v, 1050 - growth));
                Check.due("wet x", works.wet(v, 0), roundDue(v * (1000L + growth), 1000));
                Check.due("wet y", works.wet(v, 1), roundDue(v * (1050L - growth), 1000));
            }
        }
    }

    private static void wrongInputs() {
        GlobeWorks works = new GlobeWorks(6);
        works.paper(3, 4);
        int[] values = {10001, -10001, Check.MIN, Check.MAX};
        for (int v : values) {
            for (int what = 0; what < 2; what++) {
                Check.due("drawn " + v, works.drawn(v, what), -1);
                Check.due("wet " + v, works.wet(v, what), -1);
            }
        }
        int[] others = {-1, 2, Check.MIN, Check.MAX};
        for (int what : others) {
            Check.due("drawn what " + what, works.drawn(500, what), -1);
            Check.due("wet what " + what, works.wet(500, what), -1);
        }
    }
}
