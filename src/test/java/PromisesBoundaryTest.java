/** The sentences of promises 1 to 20 that name a boundary case, each with a test of its own. */
public final class PromisesBoundaryTest {
    private static final int[] NUMBERS = {6, 8, 9, 10, 12, 15, 18, 20, 24};
    private static final int[] FAR = {Check.MIN, Check.MIN + 1, -1000000, 1000000, Check.MAX - 1, Check.MAX};

    public static void main(String[] args) {
        goresNotAbove();
        goresBelowSix();
        narrowHeights();
        acrossSides();
        acrossHeights();
        coastPlaces();
        thirtyCoasts();
        toOfNoCoast();
        toNoPlace();
        toWhereItIs();
        toHalfATurn();
        sixHundredPieces();
        sixHundredPiecesTwoAtOnce();
        piecesOfNoGore();
        pieceNumbers();
        pieceOfOthers();
        pieceOfNone();
        paperThatCannotBe();
        paperThatIsSoAlready();
        drawnValues();
        drawnOfOthers();
        wetValues();
        wetOfOthers();
        namePlaces();
        nameLettersAndPrices();
        sixInAGore();
        sixtyNames();
        strikeOfNone();
        strikeAnyMore();
        mayOfNone();
        mayOfWays();
        setOfNone();
        costOfNoGore();
        toldOfOthers();
        toldOfNone();
        freshOfNoGore();
        editionWithoutFreshGores();
        printedBefore();
        printedOfNoGore();
        countOfOthers();
        countOfNamesThatAreThere();
        fiveHundredAndTwelveCalls();
        Check.end();
    }

    private static void goresNotAbove() {
        Check.sentence("Promise 1: others: the greatest of those that isn't above it");
        int[][] due = {{6, 6}, {7, 6}, {8, 8}, {9, 9}, {10, 10}, {11, 10}, {12, 12}, {13, 12}, {14, 12},
            {15, 15}, {16, 15}, {17, 15}, {18, 18}, {19, 18}, {20, 20}, {21, 20}, {22, 20}, {23, 20},
            {24, 24}, {25, 24}, {36, 24}, {360, 24}, {1000000, 24}, {Check.MAX, 24}};
        for (int[] at : due) {
            Check.due("gores " + at[0], new GlobeWorks(at[0]).count(0), at[1]);
        }
    }

    private static void goresBelowSix() {
        Check.sentence("Promise 1: 6 below 6");
        int[] below = {5, 4, 3, 2, 1, 0, -1, -6, -24, Check.MIN};
        for (int gores : below) {
            Check.due("gores " + gores, new GlobeWorks(gores).count(0), 6);
        }
    }

    private static void narrowHeights() {
        Check.sentence("Promise 2: NONE if it isn't -5400 .. 5400");
        GlobeWorks works = new GlobeWorks(6);
        Check.due("narrow 5400", works.narrow(5400), 0);
        Check.due("narrow 5401", works.narrow(5401), -1);
        Check.due("narrow -5400", works.narrow(-5400), 0);
        Check.due("narrow -5401", works.narrow(-5401), -1);
        for (int far : FAR) {
            Check.due("narrow " + far, works.narrow(far), -1);
        }
    }

    private static void acrossSides() {
        Check.sentence("Promise 3: -2147483648 if there is no such SIDE");
        for (int number : NUMBERS) {
            int width = 360 / number;
            GlobeWorks works = new GlobeWorks(number);
            Check.due("w", works.across(width, 0), 30 * width);
            Check.due("-w", works.across(-width, 0), -30 * width);
            Check.due("w + 1", works.across(width + 1, 0), Check.MIN);
            Check.due("-w - 1", works.across(-width - 1, 0), Check.MIN);
            for (int far : FAR) {
                Check.due("across " + far, works.across(far, 0), Check.MIN);
            }
        }
    }

    private static void acrossHeights() {
        Check.sentence("Promise 3: -2147483648 if there is no such HEIGHT");
        GlobeWorks works = new GlobeWorks(6);
        int[] sides = {-60, -1, 0, 1, 60};
        for (int side : sides) {
            Check.due("5400", works.across(side, 5400), 0);
            Check.due("-5400", works.across(side, -5400), 0);
            Check.due("5401", works.across(side, 5401), Check.MIN);
            Check.due("-5401", works.across(side, -5401), Check.MIN);
            for (int far : FAR) {
                Check.due("across at " + far, works.across(side, far), Check.MIN);
            }
        }
    }

    private static void coastPlaces() {
        Check.sentence("Promise 4: NONE if there is no such PLACE");
        GlobeWorks works = new GlobeWorks(6);
        int[][] wrong = {{-1, 0}, {360, 0}, {0, 91}, {0, -91}, {-1, -91}, {360, 91}};
        for (int[] at : wrong) {
            Check.due("coast " + at[0] + ", " + at[1], works.coast(at[0], at[1]), -1);
        }
        for (int far : FAR) {
            Check.due("longitude " + far, works.coast(far, 0), -1);
            Check.due("latitude " + far, works.coast(0, far), -1);
        }
        int[][] corners = {{0, -90}, {0, 90}, {359, -90}, {359, 90}};
        for (int k = 0; k < corners.length; k++) {
            Check.due("corner " + k, works.coast(corners[k][0], corners[k][1]), k);
        }
    }

    private static void thirtyCoasts() {
        Check.sentence("Promise 4: NONE if 30 came");
        GlobeWorks works = new GlobeWorks(6);
        for (int k = 0; k < 30; k++) {
            Check.due("coast " + k, works.coast(0, 0), k);
        }
        Check.due("one more", works.coast(0, 0), -1);
        Check.due("and another", works.coast(1, 1), -1);
        Check.due("count", works.count(1), 30);
    }

    private static void toOfNoCoast() {
        Check.sentence("Promise 5: NONE if there is none such");
        GlobeWorks works = new GlobeWorks(6);
        Check.due("before any", works.to(0, 1, 1), -1);
        works.coast(0, 0);
        Check.due("the first", works.to(0, 1, 1), 1);
        Check.due("the one behind it", works.to(1, 1, 1), -1);
        Check.due("the one before it", works.to(-1, 1, 1), -1);
        for (int far : FAR) {
            Check.due("coast " + far, works.to(far, 1, 1), -1);
        }
        for (int k = 1; k < 30; k++) {
            works.coast(k, 0);
        }
        Check.due("the last", works.to(29, 29, 1), 1);
        Check.due("behind the last", works.to(30, 29, 1), -1);
    }

    private static void toNoPlace() {
        Check.sentence("Promise 5: NONE if no such PLACE");
        GlobeWorks works = new GlobeWorks(6);
        works.coast(0, 0);
        int[][] wrong = {{-1, 0}, {360, 0}, {0, 91}, {0, -91}};
        for (int[] at : wrong) {
            Check.due("to " + at[0] + ", " + at[1], works.to(0, at[0], at[1]), -1);
        }
        for (int far : FAR) {
            Check.due("longitude " + far, works.to(0, far, 1), -1);
            Check.due("latitude " + far, works.to(0, 1, far), -1);
        }
        Check.due("359, 90", works.to(0, 359, 90), 1);
        Check.due("0, -90", works.to(0, 0, -90), 1);
    }

    private static void toWhereItIs() {
        Check.sentence("Promise 5: NONE if it is where it is already");
        GlobeWorks works = new GlobeWorks(6);
        works.coast(60, 0);
        Check.due("its first place", works.to(0, 60, 0), -1);
        Check.due("another latitude", works.to(0, 60, 1), 2);
        Check.due("where it is now", works.to(0, 60, 1), -1);
        Check.due("another longitude", works.to(0, 61, 1), 1);
        Check.due("where it is now", works.to(0, 61, 1), -1);
        Check.due("where it was", works.to(0, 60, 1), 1);
        works.coast(0, 90);
        Check.due("at the pole", works.to(1, 0, 90), -1);
        Check.due("another longitude at the pole", works.to(1, 1, 90), 1);
    }

    private static void toHalfATurn() {
        Check.sentence("Promise 5: NONE if the STEP would be of 180 degrees");
        GlobeWorks works = new GlobeWorks(6);
        works.coast(350, 0);
        Check.due("180 degrees", works.to(0, 170, 0), -1);
        Check.due("180 degrees with latitude", works.to(0, 170, 5), -1);
        Check.due("179 degrees", works.to(0, 169, 0), 4);
        Check.due("back", works.to(0, 350, 0), 4);
        Check.due("181 degrees", works.to(0, 171, 0), 4);
    }

    private static GlobeWorks withUprights(int pairs) {
        GlobeWorks works = new GlobeWorks(24);
        works.coast(0, 0);
        for (int k = 0; k < pairs; k++) {
            works.to(0, 0, k % 2 == 0 ? 1 : 0);
        }
        return works;
    }

    private static void sixHundredPieces() {
        Check.sentence("Promise 5: NONE if more than 600 PIECES would be");
        GlobeWorks works = withUprights(300);
        Check.due("600", works.count(2), 600);
        works.coast(20, 0);
        Check.due("601 would be", works.to(1, 21, 0), -1);
        Check.due("602 would be", works.to(0, 0, 9), -1);
        Check.due("600 still", works.count(2), 600);
        GlobeWorks many = withUprights(294);
        many.coast(14, 0);
        Check.due("588", many.count(2), 588);
        Check.due("13 would be 601", many.to(1, 193, 0), -1);
        Check.due("12 make 600", many.to(1, 180, 0), 12);
        Check.due("600", many.count(2), 600);
        Check.due("601 would be", many.to(1, 179, 0), -1);
    }

    private static void sixHundredPiecesTwoAtOnce() {
        Check.sentence("Promise 5: NONE if more than 600 PIECES would be (of a STEP with several)");
        GlobeWorks works = withUprights(299);
        works.coast(14, 0);
        Check.due("598", works.count(2), 598);
        Check.due("three would be 601", works.to(1, 31, 0), -1);
        Check.due("one makes 599", works.to(1, 14, 1), 1);
        Check.due("two would be 601", works.to(1, 16, 1), -1);
        Check.due("an upright on the edge would be 601", works.to(0, 0, 9), -1);
        Check.due("none of the two came", works.pieces(1), 0);
        Check.due("one makes 600", works.to(1, 15, 1), 1);
        Check.due("600", works.count(2), 600);
        GlobeWorks two = withUprights(299);
        two.coast(14, 0);
        Check.due("two make 600", two.to(1, 16, 0), 2);
        Check.due("600", two.count(2), 600);
    }

    private static void piecesOfNoGore() {
        Check.sentence("Promise 6: NONE if there is none such");
        for (int number : NUMBERS) {
            GlobeWorks works = new GlobeWorks(number);
            Check.due("the first", works.pieces(0), 0);
            Check.due("the last", works.pieces(number - 1), 0);
            Check.due("behind it", works.pieces(number), -1);
            Check.due("before the first", works.pieces(-1), -1);
            for (int far : FAR) {
                Check.due("pieces " + far, works.pieces(far), -1);
            }
        }
    }

    private static GlobeWorks withPieces() {
        GlobeWorks works = new GlobeWorks(6);
        works.coast(0, 0);
        works.coast(10, 0);
        works.to(1, 20, 1);
        works.to(0, 5, 2);
        works.to(1, 30, 3);
        return works;
    }

    private static void pieceNumbers() {
        Check.sentence("Promise 7: the i-th PIECE in a GORE (from 0 on, as they came)");
        GlobeWorks works = withPieces();
        int[][] due = {{1, -40, 0, -20, 60}, {0, -60, 0, -50, 120}, {1, -20, 60, 0, 180}};
        for (int i = 0; i < 3; i++) {
            for (int what = 0; what < 5; what++) {
                Check.due("piece " + i + ", " + what, works.piece(0, i, what), due[i][what]);
            }
        }
        Check.due("before the first", works.piece(0, -1, 0), -1);
        Check.due("behind the last", works.piece(0, 3, 0), -1);
    }

    private static void pieceOfOthers() {
        Check.sentence("Promise 7: NONE for others");
        GlobeWorks works = withPieces();
        int[] others = {-1, 5, 6, Check.MIN, Check.MAX};
        for (int what : others) {
            Check.due("of a piece, what " + what, works.piece(0, 0, what), -1);
            Check.due("of no piece, what " + what, works.piece(0, 3, what), -1);
            Check.due("of no gore, what " + what, works.piece(6, 0, what), -1);
        }
    }

    private static void pieceOfNone() {
        Check.sentence("Promise 7: NONE for a COAST that is none; -2147483648 of 1 to 4");
        GlobeWorks works = withPieces();
        int[][] none = {{0, -1}, {0, 3}, {1, 0}, {5, 0}, {-1, 0}, {6, 0}, {0, Check.MIN}, {0, Check.MAX},
            {Check.MIN, 0}, {Check.MAX, 0}, {Check.MIN, Check.MIN}, {Check.MAX, Check.MAX}};
        for (int[] at : none) {
            Check.due("coast of " + at[0] + ", " + at[1], works.piece(at[0], at[1], 0), -1);
            for (int what = 1; what <= 4; what++) {
                Check.due(what + " of " + at[0] + ", " + at[1], works.piece(at[0], at[1], what), Check.MIN);
            }
        }
    }

    private static void paperThatCannotBe() {
        Check.sentence("Promise 8: false if it can't be so");
        GlobeWorks works = new GlobeWorks(6);
        int[] wrong = {-1, 51, Check.MIN, Check.MAX};
        for (int growth : wrong) {
            Check.due("across " + growth, works.paper(growth, 5), false);
            Check.due("along " + growth, works.paper(5, growth), false);
            Check.due("both " + growth, works.paper(growth, growth), false);
        }
        Check.due("50, 0", works.paper(50, 0), true);
        Check.due("0, 50", works.paper(0, 50), true);
    }

    private static void paperThatIsSoAlready() {
        Check.sentence("Promise 8: false if it is so already");
        GlobeWorks works = new GlobeWorks(6);
        Check.due("0, 0 at first", works.paper(0, 0), false);
        Check.due("across alone", works.paper(7, 0), true);
        Check.due("again", works.paper(7, 0), false);
        Check.due("along alone", works.paper(7, 8), true);
        Check.due("again", works.paper(7, 8), false);
        Check.due("the other way round", works.paper(8, 7), true);
        Check.due("to 0, 0", works.paper(0, 0), true);
        Check.due("again", works.paper(0, 0), false);
    }

    private static void drawnValues() {
        Check.sentence("Promise 9: NONE if it isn't -10000 .. 10000");
        GlobeWorks works = new GlobeWorks(6);
        works.paper(50, 0);
        // 10000000 by 1050 is 9523.8
        Check.due("x 10000", works.drawn(10000, 0), 9524);
        Check.due("x -10000", works.drawn(-10000, 0), -9524);
        Check.due("y 10000", works.drawn(10000, 1), 10000);
        Check.due("y -10000", works.drawn(-10000, 1), -10000);
        for (int what = 0; what < 2; what++) {
            Check.due("10001", works.drawn(10001, what), -1);
            Check.due("-10001", works.drawn(-10001, what), -1);
            for (int far : FAR) {
                Check.due("drawn " + far, works.drawn(far, what), -1);
            }
        }
    }

    private static void drawnOfOthers() {
        Check.sentence("Promise 9: NONE for others");
        GlobeWorks works = new GlobeWorks(6);
        Check.due("what -1", works.drawn(500, -1), -1);
        Check.due("what 0", works.drawn(500, 0), 500);
        Check.due("what 1", works.drawn(500, 1), 500);
        Check.due("what 2", works.drawn(500, 2), -1);
        for (int far : FAR) {
            Check.due("what " + far, works.drawn(500, far), -1);
        }
    }

    private static void wetValues() {
        Check.sentence("Promise 10: NONE likewise (-10000 .. 10000)");
        GlobeWorks works = new GlobeWorks(6);
        works.paper(50, 0);
        // what is WET may be greater than what is asked for
        Check.due("x 10000", works.wet(10000, 0), 10500);
        Check.due("x -10000", works.wet(-10000, 0), -10500);
        Check.due("y 10000", works.wet(10000, 1), 10000);
        Check.due("y -10000", works.wet(-10000, 1), -10000);
        for (int what = 0; what < 2; what++) {
            Check.due("10001", works.wet(10001, what), -1);
            Check.due("-10001", works.wet(-10001, what), -1);
            for (int far : FAR) {
                Check.due("wet " + far, works.wet(far, what), -1);
            }
        }
    }

    private static void wetOfOthers() {
        Check.sentence("Promise 10: NONE likewise (others)");
        GlobeWorks works = new GlobeWorks(6);
        Check.due("what -1", works.wet(500, -1), -1);
        Check.due("what 0", works.wet(500, 0), 500);
        Check.due("what 1", works.wet(500, 1), 500);
        Check.due("what 2", works.wet(500, 2), -1);
        for (int far : FAR) {
            Check.due("what " + far, works.wet(500, far), -1);
        }
    }

    private static void namePlaces() {
        Check.sentence("Promise 11: NONE if there is no such PLACE");
        GlobeWorks works = new GlobeWorks(6);
        int[][] wrong = {{-1, 0}, {360, 0}, {0, 91}, {0, -91}};
        for (int[] at : wrong) {
            Check.due("name " + at[0] + ", " + at[1], works.name(at[0], at[1], 5, 5), -1);
        }
        for (int far : FAR) {
            Check.due("longitude " + far, works.name(far, 0, 5, 5), -1);
            Check.due("latitude " + far, works.name(0, far, 5, 5), -1);
        }
        int[][] corners = {{0, -90}, {0, 90}, {359, -90}, {359, 90}};
        for (int k = 0; k < corners.length; k++) {
            Check.due("corner " + k, works.name(corners[k][0], corners[k][1], 5, 5), k);
        }
    }

    private static void nameLettersAndPrices() {
        Check.sentence("Promise 11: NONE if there is no such LETTERS, PRICE");
        GlobeWorks works = new GlobeWorks(6);
        int[] letters = {-1, 0, 21};
        int[] prices = {-1, 0, 100};
        for (int k = 0; k < 3; k++) {
            Check.due("letters " + letters[k], works.name(0, 0, letters[k], 5), -1);
            Check.due("price " + prices[k], works.name(0, 0, 5, prices[k]), -1);
        }
        for (int far : FAR) {
            Check.due("letters " + far, works.name(0, 0, far, 5), -1);
            Check.due("price " + far, works.name(0, 0, 5, far), -1);
        }
        Check.due("1, 1", works.name(0, 0, 1, 1), 0);
        Check.due("20, 99", works.name(0, 0, 20, 99), 1);
    }

    private static void sixInAGore() {
        Check.sentence("Promise 11: NONE if its GORE has 6");
        GlobeWorks works = new GlobeWorks(24);
        for (int k = 0; k < 6; k++) {
            Check.due("name " + k, works.name(k == 0 ? 0 : 14, 0, 1, 1), k);
        }
        Check.due("at its first degree", works.name(0, 0, 1, 1), -1);
        Check.due("at its last degree", works.name(14, 0, 1, 1), -1);
        Check.due("in the gore behind it", works.name(15, 0, 1, 1), 6);
        Check.due("in the gore before it", works.name(359, 0, 1, 1), 7);
        works.strike(7);
        Check.due("one of another gore went", works.name(0, 0, 1, 1), -1);
        works.strike(3);
        Check.due("one of its own went", works.name(0, 0, 1, 1), 8);
        Check.due("6 again", works.name(0, 0, 1, 1), -1);
    }

    private static void sixtyNames() {
        Check.sentence("Promise 11: NONE if 60 came");
        GlobeWorks works = new GlobeWorks(10);
        for (int k = 0; k < 60; k++) {
            Check.due("name " + k, works.name(k % 10 * 36, 0, 1, 1), k);
        }
        Check.due("all are there", works.count(3), 60);
        Check.due("one more", works.name(0, 0, 1, 1), -1);
        for (int k = 0; k < 60; k++) {
            works.strike(k);
        }
        Check.due("none is there", works.count(3), 0);
        Check.due("60 came all the same", works.name(0, 0, 1, 1), -1);
        Check.due("the last one", works.told(59, 0), Check.MIN);
    }

    private static void strikeOfNone() {
        Check.sentence("Promise 12: false if there is none such");
        GlobeWorks works = new GlobeWorks(6);
        Check.due("before any", works.strike(0), false);
        works.name(0, 0, 1, 1);
        Check.due("before the first", works.strike(-1), false);
        Check.due("behind the last", works.strike(1), false);
        for (int far : FAR) {
            Check.due("strike " + far, works.strike(far), false);
        }
        Check.due("the first", works.strike(0), true);
    }

    private static void strikeAnyMore() {
        Check.sentence("Promise 12: false if there is none such any more");
        GlobeWorks works = new GlobeWorks(6);
        works.name(0, 0, 1, 1);
        works.name(0, 0, 1, 1);
        Check.due("the first", works.strike(0), true);
        Check.due("again", works.strike(0), false);
        works.name(0, 0, 1, 1);
        Check.due("again, when another one came", works.strike(0), false);
        Check.due("two are there", works.count(3), 2);
    }

    private static void mayOfNone() {
        Check.sentence("Promise 13: false if there is none such");
        GlobeWorks works = new GlobeWorks(6);
        works.name(30, 0, 1, 1);
        works.name(30, 0, 1, 1);
        works.strike(0);
        for (int way = 0; way <= 4; way++) {
            Check.due("the struck one", works.may(0, way), false);
            Check.due("one that is there", works.may(1, way), true);
            Check.due("behind the last", works.may(2, way), false);
            Check.due("before the first", works.may(-1, way), false);
            for (int far : FAR) {
                Check.due("may " + far, works.may(far, way), false);
            }
        }
    }

    private static void mayOfWays() {
        Check.sentence("Promise 13: false if there is none such (way 4 may always be)");
        GlobeWorks works = new GlobeWorks(6);
        works.name(30, 90, 20, 99);
        works.name(30, 0, 1, 1);
        for (int name = 0; name < 2; name++) {
            Check.due("way -1", works.may(name, -1), false);
            Check.due("way 0", works.may(name, 0), name == 1);
            Check.due("way 3", works.may(name, 3), name == 1);
            Check.due("way 4", works.may(name, 4), true);
            Check.due("way 5", works.may(name, 5), false);
            Check.due("way 32", works.may(name, 32), false);
            Check.due("way 36", works.may(name, 36), false);
            for (int far : FAR) {
                Check.due("way " + far, works.may(name, far), false);
            }
        }
        // by edges alone: the second may lie over the first, though it is not set so
        works.name(30, 0, 1, 1);
        Check.due("by edges alone", works.may(2, 0), true);
        Check.due("set beside it", works.set(2), 1);
    }

    private static void setOfNone() {
        Check.sentence("Promise 14: NONE if there is none such");
        GlobeWorks works = new GlobeWorks(6);
        Check.due("before any", works.set(0), -1);
        works.name(30, 0, 1, 1);
        works.name(30, 0, 1, 1);
        works.strike(0);
        Check.due("the struck one", works.set(0), -1);
        Check.due("the other one", works.set(1), 0);
        Check.due("behind the last", works.set(2), -1);
        Check.due("before the first", works.set(-1), -1);
        for (int far : FAR) {
            Check.due("set " + far, works.set(far), -1);
        }
    }

    private static void costOfNoGore() {
        Check.sentence("Promise 15: NONE if there is none such");
        for (int number : NUMBERS) {
            GlobeWorks works = new GlobeWorks(number);
            works.name(359, 90, 1, 7);
            Check.due("of no names", works.cost(0), 0);
            Check.due("the last", works.cost(number - 1), 7);
            Check.due("behind it", works.cost(number), -1);
            Check.due("before the first", works.cost(-1), -1);
            for (int far : FAR) {
                Check.due("cost " + far, works.cost(far), -1);
            }
        }
    }

    private static void toldOfOthers() {
        Check.sentence("Promise 16: -2147483648 for others");
        GlobeWorks works = new GlobeWorks(6);
        works.name(359, -90, 20, 99);
        int[] due = {5, 58, -5400, 20, 99};
        for (int what = 0; what < 5; what++) {
            Check.due("told " + what, works.told(0, what), due[what]);
        }
        Check.due("told -1", works.told(0, -1), Check.MIN);
        Check.due("told 5", works.told(0, 5), Check.MIN);
        for (int far : FAR) {
            Check.due("told " + far, works.told(0, far), Check.MIN);
        }
    }

    private static void toldOfNone() {
        Check.sentence("Promise 16: -2147483648 if there is none such (any more)");
        GlobeWorks works = new GlobeWorks(6);
        works.name(30, 0, 1, 1);
        works.name(30, 0, 1, 1);
        works.strike(0);
        for (int what = -1; what <= 5; what++) {
            Check.due("the struck one", works.told(0, what), Check.MIN);
            Check.due("behind the last", works.told(2, what), Check.MIN);
            Check.due("before the first", works.told(-1, what), Check.MIN);
            for (int far : FAR) {
                Check.due("told of " + far, works.told(far, what), Check.MIN);
            }
        }
        Check.due("one that is there", works.told(1, 0), 0);
    }

    private static void freshOfNoGore() {
        Check.sentence("Promise 17: false if there is none such");
        for (int number : NUMBERS) {
            GlobeWorks works = new GlobeWorks(number);
            Check.due("the first", works.fresh(0), true);
            Check.due("the last", works.fresh(number - 1), true);
            Check.due("behind it", works.fresh(number), false);
            Check.due("before the first", works.fresh(-1), false);
            for (int far : FAR) {
                Check.due("fresh " + far, works.fresh(far), false);
            }
        }
    }

    private static void editionWithoutFreshGores() {
        Check.sentence("Promise 18: how many GORES were printed (all, one, none)");
        for (int number : NUMBERS) {
            GlobeWorks works = new GlobeWorks(number);
            Check.due("all", works.edition(), number);
            Check.due("none", works.edition(), 0);
            works.name(359, 0, 1, 1);
            Check.due("one", works.edition(), 1);
            Check.due("none", works.edition(), 0);
            Check.due("each has a number", works.count(4), 4);
            Check.due("printed", works.printed(number - 1), 3);
            Check.due("printed", works.printed(0), 1);
        }
    }

    private static void printedBefore() {
        Check.sentence("Promise 19: 0: none");
        GlobeWorks works = new GlobeWorks(6);
        for (int gore = 0; gore < 6; gore++) {
            Check.due("printed " + gore, works.printed(gore), 0);
        }
        works.edition();
        for (int gore = 0; gore < 6; gore++) {
            Check.due("printed " + gore, works.printed(gore), 1);
        }
    }

    private static void printedOfNoGore() {
        Check.sentence("Promise 19: NONE if there is none such");
        for (int number : NUMBERS) {
            GlobeWorks works = new GlobeWorks(number);
            works.edition();
            Check.due("the first", works.printed(0), 1);
            Check.due("the last", works.printed(number - 1), 1);
            Check.due("behind it", works.printed(number), -1);
            Check.due("before the first", works.printed(-1), -1);
            for (int far : FAR) {
                Check.due("printed " + far, works.printed(far), -1);
            }
        }
    }

    private static void countOfOthers() {
        Check.sentence("Promise 20: NONE for others");
        GlobeWorks works = withPieces();
        works.edition();
        works.edition();
        works.edition();
        works.edition();
        works.name(0, 0, 1, 1);
        int[] due = {6, 2, 3, 1, 4, 1};
        for (int what = 0; what < 6; what++) {
            Check.due("count " + what, works.count(what), due[what]);
        }
        Check.due("count -1", works.count(-1), -1);
        Check.due("count 6", works.count(6), -1);
        for (int far : FAR) {
            Check.due("count " + far, works.count(far), -1);
        }
    }

    private static void countOfNamesThatAreThere() {
        Check.sentence("Promise 20: 3 NAMES that are there");
        GlobeWorks works = new GlobeWorks(6);
        Check.due("at first", works.count(3), 0);
        works.name(0, 0, 1, 1);
        works.name(60, 0, 1, 1);
        Check.due("two", works.count(3), 2);
        works.strike(0);
        Check.due("one", works.count(3), 1);
        works.strike(1);
        Check.due("none", works.count(3), 0);
    }

    private static void fiveHundredAndTwelveCalls() {
        Check.sentence("An object is used for at most 512 calls");
        GlobeWorks works = new GlobeWorks(24);
        for (int k = 0; k < 511; k++) {
            works.edition();
        }
        Check.due("the 512th", works.count(4), 511);
        GlobeWorks steps = new GlobeWorks(24);
        steps.coast(1, 0);
        for (int k = 0; k < 510; k++) {
            Check.due("step " + k, steps.to(0, 1, k % 2 == 0 ? 1 : 0), 1);
        }
        Check.due("the 512th", steps.pieces(0), 510);
    }
}
