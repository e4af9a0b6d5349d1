/**
 * The sentences of "Terms" that name a boundary case, each with a test of its own. What is
 * due is worked out by hand from the sentence.
 */
public final class TermsBoundaryTest {
    private static final int[] NUMBERS = {6, 8, 9, 10, 12, 15, 18, 20, 24};

    public static void main(String[] args) {
        longitudes();
        latitudes();
        goreWidths();
        threeHundredAndSixtyIsZero();
        sidesOfTheEdges();
        narrowWithoutItsSign();
        narrowAtWholeDegrees();
        narrowIsCut();
        cosOfNinetyOne();
        xIsCutTowardsZero();
        roundOfHalves();
        shorterWayRound();
        noStepOfHalfATurn();
        heightAtBothEnds();
        heightOfAHalf();
        cutWhereAnEdgeIsCrossed();
        cutWhereAnEdgeIsComeTo();
        begunOnAnEdge();
        inTheOrderInWhichItGoes();
        withoutLongitude();
        withoutLongitudeOnAnEdge();
        paperAtFirst();
        paperBounds();
        lettersAndPrice();
        goreThatBeginsThere();
        cornersOfTheWays();
        wideAndHigh();
        leavingOut();
        cornersBelowThePole();
        cornersOnTheEdge();
        noInnerPointInCommon();
        touchingAbove();
        leastCosts();
        leastWaysOfLikeCosts();
        waysByNumbers();
        freshAtFirst();
        freshByPieces();
        freshByNames();
        freshByPaper();
        notFreshWhenPrinted();
        firstEdition();
        Check.end();
    }

    private static void duePiece(GlobeWorks works, int gore, int i, int... due) {
        for (int what = 0; what < 5; what++) {
            Check.due("piece " + gore + ", " + i + ", " + what, works.piece(gore, i, what), due[what]);
        }
    }

    private static void duePieces(GlobeWorks works, int... due) {
        for (int gore = 0; gore < due.length; gore++) {
            Check.due("pieces " + gore, works.pieces(gore), due[gore]);
        }
    }

    private static void dueMay(GlobeWorks works, int name, String due) {
        for (int way = 0; way < 5; way++) {
            Check.due("may " + name + ", " + way, works.may(name, way), due.charAt(way) == '1');
        }
    }

    private static void dueSet(GlobeWorks works, int cost, int... due) {
        for (int k = 0; k < due.length; k++) {
            Check.due("set " + k, works.set(k), due[k]);
        }
        Check.due("cost", works.cost(0), cost);
    }

    private static void dueFresh(GlobeWorks works, String due) {
        for (int gore = 0; gore < due.length(); gore++) {
            Check.due("fresh " + gore, works.fresh(gore), due.charAt(gore) == '1');
        }
    }

    private static void longitudes() {
        Check.sentence("1: LONGITUDES 0 .. 359");
        GlobeWorks works = new GlobeWorks(6);
        Check.due("coast -1", works.coast(-1, 0), -1);
        Check.due("coast 0", works.coast(0, 0), 0);
        Check.due("coast 359", works.coast(359, 0), 1);
        Check.due("coast 360", works.coast(360, 0), -1);
        Check.due("to -1", works.to(0, -1, 0), -1);
        Check.due("to 359", works.to(0, 359, 0), 1);
        Check.due("to 360", works.to(0, 360, 0), -1);
        Check.due("to 0", works.to(0, 0, 0), 1);
        Check.due("name -1", works.name(-1, 0, 1, 1), -1);
        Check.due("name 0", works.name(0, 0, 1, 1), 0);
        Check.due("name 359", works.name(359, 0, 1, 1), 1);
        Check.due("name 360", works.name(360, 0, 1, 1), -1);
    }

    private static void latitudes() {
        Check.sentence("1: LATITUDES -90 .. 90");
        GlobeWorks works = new GlobeWorks(6);
        Check.due("coast -91", works.coast(0, -91), -1);
        Check.due("coast -90", works.coast(0, -90), 0);
        Check.due("coast 90", works.coast(0, 90), 1);
        Check.due("coast 91", works.coast(0, 91), -1);
        Check.due("to -91", works.to(0, 1, -91), -1);
        Check.due("to 90", works.to(0, 1, 90), 1);
        Check.due("to 91", works.to(0, 1, 91), -1);
        Check.due("to -90", works.to(0, 1, -90), 1);
        Check.due("name -91", works.name(0, -91, 1, 1), -1);
        Check.due("name -90", works.name(0, -90, 1, 1), 0);
        Check.due("name 90", works.name(0, 90, 1, 1), 1);
        Check.due("name 91", works.name(0, 91, 1, 1), -1);
    }

    private static void goreWidths() {
        Check.sentence("1: GORES 0 .. n - 1 are 360 / n degrees wide");
        int[] widths = {60, 45, 40, 36, 30, 24, 20, 18, 15};
        for (int k = 0; k < NUMBERS.length; k++) {
            GlobeWorks works = new GlobeWorks(NUMBERS[k]);
            int last = NUMBERS[k] - 1;
            works.name(widths[k] - 1, 0, 1, 1);
            works.name(widths[k], 0, 1, 1);
            works.name(359, 0, 1, 1);
            works.name(359 - widths[k], 0, 1, 1);
            Check.due("the last degree of gore 0", works.told(0, 0), 0);
            Check.due("the first degree of gore 1", works.told(1, 0), 1);
            Check.due("359", works.told(2, 0), last);
            Check.due("the last degree before it", works.told(3, 0), last - 1);
        }
    }

    private static void threeHundredAndSixtyIsZero() {
        Check.sentence("1: EDGES (360 is 0)");
        for (int number : NUMBERS) {
            int width = 360 / number;
            GlobeWorks works = new GlobeWorks(number);
            works.coast(359, 0);
            Check.due("to 0 from 359", works.to(0, 0, 0), 1);
            duePiece(works, number - 1, 0, 0, width - 2, 0, width, 0);
            Check.due("on to 1", works.to(0, 1, 0), 1);
            duePiece(works, 0, 0, 0, -width, 0, 2 - width, 0);
            Check.due("back over 0", works.to(0, 359, 0), 2);
            duePiece(works, 0, 1, 0, 2 - width, 0, -width, 0);
            duePiece(works, number - 1, 1, 0, width, 0, width - 2, 0);
        }
    }

    private static void sidesOfTheEdges() {
        Check.sentence("1: SIDE -w .. w; of the EDGES -w and w");
        for (int number : NUMBERS) {
            int width = 360 / number;
            GlobeWorks works = new GlobeWorks(number);
            for (int gore = 0; gore < number; gore++) {
                works.coast(gore * width, 0);
                Check.due("east", works.to(gore, (gore + 1) * width % 360, 0), 1);
                Check.due("west", works.to(gore, gore * width, 0), 1);
                Check.due("begin east", works.piece(gore, 0, 1), -width);
                Check.due("end east", works.piece(gore, 0, 3), width);
                Check.due("begin west", works.piece(gore, 1, 1), width);
                Check.due("end west", works.piece(gore, 1, 3), -width);
            }
            Check.due("across -w", works.across(-width, 0), -30 * width);
            Check.due("across w", works.across(width, 0), 30 * width);
            Check.due("across -w - 1", works.across(-width - 1, 0), Check.MIN);
            Check.due("across w + 1", works.across(width + 1, 0), Check.MIN);
        }
    }

    private static void narrowWithoutItsSign() {
        Check.sentence("1: NARROW: the whole degrees of m without its sign");
        GlobeWorks works = new GlobeWorks(6);
        int[][] due = {{59, 1000}, {60, 1000}, {61, 999}, {3599, 500}, {3600, 500}, {3601, 499},
            {5339, 17}, {5340, 17}, {5341, 16}, {5399, 0}, {5400, 0}};
        for (int[] at : due) {
            Check.due("narrow " + at[0], works.narrow(at[0]), at[1]);
            Check.due("narrow -" + at[0], works.narrow(-at[0]), at[1]);
        }
    }

    private static void narrowAtWholeDegrees() {
        Check.sentence("1: NARROW: r the minutes over (none)");
        GlobeWorks works = new GlobeWorks(6);
        String cos = "1000 1000 999 999 998 996 995 993 990 988 985 982 978 974 970 966 961 956 951"
                + " 946 940 934 927 921 914 906 899 891 883 875 866 857 848 839 829 819 809 799 788"
                + " 777 766 755 743 731 719 707 695 682 669 656 643 629 616 602 588 574 559 545 530"
                + " 515 500 485 469 454 438 423 407 391 375 358 342 326 309 292 276 259 242 225 208"
                + " 191 174 156 139 122 105 87 70 52 35 17 0";
        String[] due = cos.split(" ");
        Check.due("the row goes to 90", due.length, 91);
        for (int degrees = 0; degrees <= 90; degrees++) {
            Check.due("narrow at " + degrees, works.narrow(60 * degrees), Integer.parseInt(due[degrees]));
        }
    }

    private static void narrowIsCut() {
        Check.sentence("1: NARROW: by 60, cut");
        GlobeWorks works = new GlobeWorks(6);
        // 1000 * 59 and 999 together 59999: 999.98
        Check.due("narrow 61", works.narrow(61), 999);
        // 17 * 4: 1.13; 17 * 3: 0.85
        Check.due("narrow 5396", works.narrow(5396), 1);
        Check.due("narrow 5397", works.narrow(5397), 0);
        // 35 * 1 and 17 * 59 together 1038: 17.3
        Check.due("narrow -5339", works.narrow(-5339), 17);
    }

    private static void cosOfNinetyOne() {
        Check.sentence("1: COS of 91: 0");
        GlobeWorks works = new GlobeWorks(24);
        Check.due("narrow 5400", works.narrow(5400), 0);
        Check.due("narrow -5400", works.narrow(-5400), 0);
        Check.due("across w, 5400", works.across(15, 5400), 0);
        Check.due("across -w, -5400", works.across(-15, -5400), 0);
    }

    private static void xIsCutTowardsZero() {
        Check.sentence("1: x: by 1000, cut towards 0");
        GlobeWorks works = new GlobeWorks(12);
        // 30 * 30 * 499 by 1000 is 449.1; 30 * 17 by 1000 is 0.51
        Check.due("across 30", works.across(30, 3601), 449);
        Check.due("across -30", works.across(-30, 3601), -449);
        Check.due("across 1", works.across(1, -5340), 0);
        Check.due("across -1", works.across(-1, -5340), 0);
        Check.due("across -30 at a whole x", works.across(-30, 3600), -450);
    }

    private static void roundOfHalves() {
        Check.sentence("1: ROUND: the greatest whole number that isn't above (2 p and q) by 2 q");
        GlobeWorks works = new GlobeWorks(6);
        works.paper(50, 1);
        // 10 * 1.05 is 10.5; 9 * 1.05 is 9.45; 11 * 1.05 is 11.55
        int[][] across = {{10, 11}, {-10, -10}, {9, 9}, {-9, -9}, {11, 12}, {-11, -12}, {0, 0},
            {30, 32}, {-30, -31}};
        for (int[] at : across) {
            Check.due("wet " + at[0], works.wet(at[0], 0), at[1]);
        }
        // 500 * 1.001 is 500.5; 499 * 1.001 is 499.499
        int[][] along = {{500, 501}, {-500, -500}, {499, 499}, {-499, -499}, {501, 502}, {-501, -502}};
        for (int[] at : along) {
            Check.due("wet " + at[0], works.wet(at[0], 1), at[1]);
        }
    }

    private static void shorterWayRound() {
        Check.sentence("2: each STEP goes by the shorter way round");
        GlobeWorks works = new GlobeWorks(6);
        works.coast(0, 0);
        Check.due("179 east", works.to(0, 179, 0), 3);
        duePieces(works, 1, 1, 1, 0, 0, 0);
        works.coast(0, 0);
        Check.due("179 west", works.to(1, 181, 0), 3);
        duePieces(works, 1, 1, 1, 1, 1, 1);
        works.coast(270, 0);
        Check.due("179 east over 0", works.to(2, 89, 0), 4);
        duePieces(works, 2, 2, 1, 1, 2, 2);
        works.coast(89, 0);
        Check.due("179 west over 0", works.to(3, 270, 0), 4);
        duePieces(works, 3, 3, 1, 1, 3, 3);
        works.coast(359, 0);
        Check.due("two degrees over 0", works.to(4, 1, 0), 2);
        duePieces(works, 4, 3, 1, 1, 3, 4);
    }

    private static void noStepOfHalfATurn() {
        Check.sentence("2: one of 180 degrees of LONGITUDE can't be");
        int[][] steps = {{0, 180}, {180, 0}, {359, 179}, {179, 359}, {90, 270}, {270, 90}, {1, 181}};
        for (int[] step : steps) {
            GlobeWorks works = new GlobeWorks(24);
            works.coast(step[0], 10);
            Check.due("half a turn from " + step[0], works.to(0, step[1], 10), -1);
            Check.due("with latitude", works.to(0, step[1], -50), -1);
            Check.due("no pieces", works.count(2), 0);
            Check.due("a degree less", works.to(0, (step[1] + 1) % 360, 10) > 0, true);
        }
        GlobeWorks pole = new GlobeWorks(24);
        pole.coast(0, 90);
        Check.due("half a turn at the pole", pole.to(0, 180, 90), -1);
    }

    private static void heightAtBothEnds() {
        Check.sentence("2: HEIGHT of a STEP: that of its begin (e is 0), that of its end (e is l)");
        GlobeWorks works = new GlobeWorks(24);
        works.coast(0, -90);
        Check.due("from pole to pole", works.to(0, 179, 90), 12);
        // 10800 * 15 by 179 is 905.03, 10800 * 165 by 179 is 9955.3
        duePiece(works, 0, 0, 0, -15, -5400, 15, -4495);
        duePiece(works, 11, 0, 0, -15, 4555, 13, 5400);
        Check.due("a fall within one degree", works.to(0, 178, -90), 1);
        duePiece(works, 11, 1, 0, 13, 5400, 11, -5400);
    }

    private static void heightOfAHalf() {
        Check.sentence("2: HEIGHT of a STEP: ROUND of (its HEIGHTS' difference times e) by l");
        GlobeWorks works = new GlobeWorks(24);
        // 60 * 4 by 32 is 7.5, and of the fall -7.5; 60 * 19 by 32 is 35.6
        works.coast(11, 0);
        Check.due("east, a rise", works.to(0, 43, 1), 3);
        Check.due("at 15", works.piece(0, 0, 4), 8);
        Check.due("at 30", works.piece(1, 0, 4), 36);
        works.coast(11, 0);
        Check.due("east, a fall", works.to(1, 43, -1), 3);
        Check.due("at 15", works.piece(0, 1, 4), -7);
        Check.due("at 30", works.piece(1, 1, 4), -36);
        works.coast(34, 0);
        Check.due("west, a rise", works.to(2, 2, 1), 3);
        Check.due("at 30", works.piece(2, 2, 4), 8);
        Check.due("at 15", works.piece(1, 2, 4), 36);
        works.coast(34, 0);
        Check.due("west, a fall", works.to(3, 2, -1), 3);
        Check.due("at 30 for one gore", works.piece(2, 3, 4), -7);
        Check.due("at 30 for the other one", works.piece(1, 3, 2), -7);
    }

    private static void cutWhereAnEdgeIsCrossed() {
        Check.sentence("2: A STEP is cut at each EDGE that it crosses");
        GlobeWorks works = new GlobeWorks(24);
        works.coast(14, 0);
        Check.due("over one edge", works.to(0, 16, 2), 2);
        duePiece(works, 0, 0, 0, 13, 0, 15, 60);
        duePiece(works, 1, 0, 0, -15, 60, -13, 120);
        Check.due("back over it", works.to(0, 14, 0), 2);
        duePiece(works, 1, 1, 0, -13, 120, -15, 60);
        duePiece(works, 0, 1, 0, 15, 60, 13, 0);
        Check.due("over two edges", works.to(0, 31, 0), 3);
        duePieces(works, 3, 3, 1, 0);
        Check.due("over eleven edges", works.to(0, 209, 0), 12);
        works.coast(14, 0);
        Check.due("over the most edges", works.to(1, 193, 0), 13);
    }

    private static void cutWhereAnEdgeIsComeTo() {
        Check.sentence("2: A STEP is cut at each EDGE that it comes to");
        GlobeWorks works = new GlobeWorks(24);
        works.coast(14, 0);
        Check.due("east to an edge", works.to(0, 15, 0), 1);
        duePiece(works, 0, 0, 0, 13, 0, 15, 0);
        duePieces(works, 1, 0);
        works.coast(16, 0);
        Check.due("west to an edge", works.to(1, 15, 0), 1);
        duePiece(works, 1, 0, 1, -13, 0, -15, 0);
        duePieces(works, 1, 1);
        works.coast(14, 0);
        Check.due("over an edge to the next one", works.to(2, 30, 0), 2);
        duePieces(works, 2, 2, 0);
    }

    private static void begunOnAnEdge() {
        Check.sentence("2: PIECES, each from one point to another one (begun on an EDGE)");
        GlobeWorks works = new GlobeWorks(24);
        works.coast(15, 0);
        Check.due("east", works.to(0, 16, 0), 1);
        duePieces(works, 0, 1);
        works.coast(15, 0);
        Check.due("west", works.to(1, 14, 0), 1);
        duePiece(works, 0, 0, 1, 15, 0, 13, 0);
        duePieces(works, 1, 1);
        works.coast(15, 0);
        Check.due("to the next edge", works.to(2, 30, 0), 1);
        duePieces(works, 1, 2, 0);
        works.coast(15, 0);
        Check.due("to the one before", works.to(3, 0, 0), 1);
        duePieces(works, 2, 2, 0);
        Check.due("nothing in the last gore", works.pieces(23), 0);
    }

    private static void inTheOrderInWhichItGoes() {
        Check.sentence("2: PIECES in the order in which it goes");
        GlobeWorks works = new GlobeWorks(8);
        works.coast(40, 0);
        works.coast(50, 0);
        works.to(1, 40, 10);
        works.to(0, 50, 10);
        duePiece(works, 0, 0, 1, 45, 300, 35, 600);
        duePiece(works, 0, 1, 0, 35, 0, 45, 300);
        duePiece(works, 1, 0, 1, -35, 0, -45, 300);
        duePiece(works, 1, 1, 0, -45, 300, -35, 600);
    }

    private static void withoutLongitude() {
        Check.sentence("2: A STEP without LONGITUDE is one PIECE");
        GlobeWorks works = new GlobeWorks(24);
        works.coast(1, -90);
        Check.due("beside an edge", works.to(0, 1, 90), 1);
        duePiece(works, 0, 0, 0, -13, -5400, -13, 5400);
        works.coast(359, 1);
        Check.due("beside the edge 360", works.to(1, 359, 0), 1);
        duePiece(works, 23, 0, 1, 13, 60, 13, 0);
        Check.due("of all", works.count(2), 2);
    }

    private static void withoutLongitudeOnAnEdge() {
        Check.sentence("2: if it is on an EDGE, one in each of both GORES");
        for (int number : NUMBERS) {
            int width = 360 / number;
            GlobeWorks works = new GlobeWorks(number);
            for (int gore = 0; gore < number; gore++) {
                works.coast(gore * width, 5);
                Check.due("on " + gore * width, works.to(gore, gore * width, -5), 2);
            }
            for (int gore = 0; gore < number; gore++) {
                Check.due("pieces " + gore, works.pieces(gore), 2);
            }
            // gore 0 has that of its begin first, then that of its end; the last one
            // has that of edge 0, which came first, before that of its own begin
            duePiece(works, 0, 0, 0, -width, 300, -width, -300);
            duePiece(works, 0, 1, 1, width, 300, width, -300);
            duePiece(works, number - 1, 0, 0, width, 300, width, -300);
            duePiece(works, number - 1, 1, number - 1, -width, 300, -width, -300);
        }
    }

    private static void paperAtFirst() {
        Check.sentence("3: PAPER grows by so many thousandths (0 at first)");
        GlobeWorks works = new GlobeWorks(6);
        for (int what = 0; what < 2; what++) {
            Check.due("drawn", works.drawn(10000, what), 10000);
            Check.due("drawn", works.drawn(-9999, what), -9999);
            Check.due("wet", works.wet(10000, what), 10000);
            Check.due("wet", works.wet(-9999, what), -9999);
        }
        Check.due("it is 0 already", works.paper(0, 0), false);
    }

    private static void paperBounds() {
        Check.sentence("3: PAPER grows by 0 .. 50 thousandths");
        GlobeWorks works = new GlobeWorks(6);
        Check.due("across 51", works.paper(51, 1), false);
        Check.due("across 50", works.paper(50, 1), true);
        Check.due("across -1", works.paper(-1, 1), false);
        Check.due("across 0", works.paper(0, 1), true);
        Check.due("along 51", works.paper(1, 51), false);
        Check.due("along 50", works.paper(1, 50), true);
        Check.due("along -1", works.paper(1, -1), false);
        Check.due("along 0", works.paper(1, 0), true);
        Check.due("both 50", works.paper(50, 50), true);
        Check.due("most of x", works.wet(1000, 0), 1050);
        Check.due("most of y", works.wet(1000, 1), 1050);
    }

    private static void lettersAndPrice() {
        Check.sentence("4: LETTERS (1 .. 20), a PRICE (1 .. 99)");
        GlobeWorks works = new GlobeWorks(6);
        Check.due("0 letters", works.name(0, 0, 0, 50), -1);
        Check.due("1 letter", works.name(0, 0, 1, 50), 0);
        Check.due("20 letters", works.name(0, 0, 20, 50), 1);
        Check.due("21 letters", works.name(0, 0, 21, 50), -1);
        Check.due("price 0", works.name(0, 0, 10, 0), -1);
        Check.due("price 1", works.name(0, 0, 10, 1), 2);
        Check.due("price 99", works.name(0, 0, 10, 99), 3);
        Check.due("price 100", works.name(0, 0, 10, 100), -1);
        Check.due("told letters", works.told(1, 3), 20);
        Check.due("told price", works.told(3, 4), 99);
    }

    private static void goreThatBeginsThere() {
        Check.sentence("4: it is in the GORE that has its LONGITUDE (that which begins there)");
        for (int number : NUMBERS) {
            int width = 360 / number;
            GlobeWorks works = new GlobeWorks(number);
            for (int gore = 0; gore < number; gore++) {
                works.name(gore * width, 0, 1, 1);
                Check.due("gore of " + gore * width, works.told(gore, 0), gore);
                Check.due("side of " + gore * width, works.told(gore, 1), -width);
            }
        }
    }

    private static void cornersOfTheWays() {
        Check.sentence("4: way 0: its lower left corner is where its PLACE is, and so on");
        // 450 is the edge where NARROW is 1000, so at -60 .. 60; at 140 and -140 it is 449;
        // on the edge way 0 or 1 keeps within it from -60 to 20, way 2 or 3 from -20 to 60
        GlobeWorks works = new GlobeWorks(24);
        works.name(0, -1, 1, 1);
        dueMay(works, 0, "10001");
        works.name(0, 1, 1, 1);
        dueMay(works, 1, "00101");
        // side 7 is at 210: 240 more reach the edge, 240 less do not
        works.name(11, -1, 6, 1);
        dueMay(works, 2, "11011");
        works.name(11, 1, 6, 1);
        dueMay(works, 3, "01111");
        works.name(4, -1, 6, 1);
        dueMay(works, 4, "11101");
        works.name(4, 1, 6, 1);
        dueMay(works, 5, "10111");
    }

    private static void wideAndHigh() {
        Check.sentence("4: it is 40 units wide for each LETTER, 80 high");
        GlobeWorks works = new GlobeWorks(6);
        // sides 58 and -58 are at 1625 and -1625, where the edge is at 1681; 80 nearer to the
        // pole it is at 1665, which one letter reaches; a unit nearer still it is at 1663
        Check.due("x", works.across(58, 1260), 1625);
        Check.due("edge", works.across(60, 1340), 1665);
        Check.due("edge", works.across(60, 1341), 1663);
        int[][] places = {{59, 21}, {59, -21}, {1, 21}, {1, -21}};
        for (int k = 0; k < places.length; k++) {
            works.name(places[k][0], places[k][1], 1, 1);
            dueMay(works, k, "11111");
        }
        works.name(59, 21, 2, 1);
        dueMay(works, 4, "01011");
        works.name(1, -21, 2, 1);
        dueMay(works, 5, "10101");
    }

    private static void leavingOut() {
        Check.sentence("4: way 4 is leaving it out, for its PRICE");
        GlobeWorks works = new GlobeWorks(6);
        works.name(0, 90, 20, 99);
        dueMay(works, 0, "00001");
        dueSet(works, 99, 4);
        works.name(0, -90, 20, 1);
        dueSet(works, 100, 4, 4);
        GlobeWorks dearest = new GlobeWorks(6);
        for (int k = 0; k < 6; k++) {
            dearest.name(30, 90, 20, 99);
        }
        dueSet(dearest, 594, 4, 4, 4, 4, 4, 4);
    }

    private static void cornersBelowThePole() {
        Check.sentence("4: each of its four corners has a y of -5400 .. 5400");
        GlobeWorks works = new GlobeWorks(6);
        // at 89 degrees the edge is at 30, and one letter reaches from -30 to 10
        works.name(0, 89, 1, 1);
        dueMay(works, 0, "00101");
        works.name(0, -89, 1, 1);
        dueMay(works, 1, "10001");
        // side 58 is at 29
        works.name(59, 89, 1, 1);
        dueMay(works, 2, "00011");
        works.name(59, -89, 1, 1);
        dueMay(works, 3, "01001");
        works.name(30, 90, 1, 1);
        dueMay(works, 4, "00001");
        works.name(30, -90, 1, 1);
        dueMay(works, 5, "00001");
    }

    private static void cornersOnTheEdge() {
        Check.sentence("4: an x that is not farther from 0 than that of SIDE w at the HEIGHT y is");
        GlobeWorks works = new GlobeWorks(24);
        // the right corners are at 450, as far as the edge; then the left ones
        works.name(11, -1, 6, 1);
        Check.due("right, as far", works.may(0, 0), true);
        works.name(11, -1, 7, 1);
        Check.due("right, farther", works.may(1, 0), false);
        works.name(4, -1, 6, 1);
        Check.due("left, as far", works.may(2, 1), true);
        works.name(4, -1, 7, 1);
        Check.due("left, farther", works.may(3, 1), false);
        // at -140 the edge is at 449
        Check.due("right, farther by 1", works.may(0, 2), false);
        Check.due("left, farther by 1", works.may(2, 3), false);
        // wider than the whole gore is there: 20 letters are 800, at 60 degrees it is 450
        works.name(7, 60, 20, 1);
        dueMay(works, 4, "00001");
    }

    private static void noInnerPointInCommon() {
        Check.sentence("4: Two NAMES that are SET in one GORE have no inner point in common");
        // sides 0 and 2 are 40 from one another at 48 degrees, 39 at 49 degrees
        GlobeWorks touching = new GlobeWorks(6);
        Check.due("x at 48", touching.across(2, 2880), 40);
        touching.name(30, 48, 1, 9);
        touching.name(31, 48, 1, 9);
        dueSet(touching, 0, 0, 0);
        GlobeWorks over = new GlobeWorks(6);
        Check.due("x at 49", over.across(2, 2940), 39);
        over.name(30, 49, 1, 9);
        over.name(31, 49, 1, 9);
        dueSet(over, 1, 1, 0);
        GlobeWorks same = new GlobeWorks(6);
        same.name(30, 0, 3, 9);
        same.name(30, 0, 3, 9);
        dueSet(same, 1, 0, 1);
        // the second lies from 60 to 100 within 0 to 400, way 0 and 1; below, it does not
        GlobeWorks within = new GlobeWorks(6);
        within.name(30, 0, 10, 9);
        within.name(32, 0, 1, 9);
        dueSet(within, 1, 1, 0);
        GlobeWorks held = new GlobeWorks(6);
        held.name(30, 0, 10, 9);
        held.name(29, 0, 10, 9);
        held.name(32, 0, 1, 9);
        // above, the first lies over the third, and would lie over the second in way 1
        dueSet(held, 3, 0, 1, 2);
    }

    private static void touchingAbove() {
        Check.sentence("4: Two NAMES have no inner point in common (one above the other)");
        // four in one place: left and right of it above, and below, where they touch at height 0
        GlobeWorks works = new GlobeWorks(6);
        works.name(30, 0, 3, 9);
        works.name(30, 0, 3, 9);
        works.name(30, 0, 3, 9);
        works.name(30, 0, 3, 9);
        dueSet(works, 6, 0, 1, 2, 3);
        // a degree is 60: the upper one's 60 .. 140 lies over 0 .. 80; two degrees do not
        GlobeWorks near = new GlobeWorks(6);
        near.name(30, 0, 3, 9);
        near.name(30, 1, 3, 9);
        dueSet(near, 1, 0, 1);
        GlobeWorks apart = new GlobeWorks(6);
        apart.name(30, 0, 3, 9);
        apart.name(30, 2, 3, 9);
        dueSet(apart, 0, 0, 0);
    }

    private static void leastCosts() {
        Check.sentence("4: the ways whose costs together are least");
        GlobeWorks works = new GlobeWorks(6);
        // six in one place, four ways: the two cheapest of 9 are left out
        int[] prices = {50, 9, 50, 50, 9, 50};
        for (int price : prices) {
            works.name(30, 0, 3, price);
        }
        dueSet(works, 24, 0, 4, 1, 2, 4, 3);
        // leaving out for 2 is cheaper than way 3
        GlobeWorks cheap = new GlobeWorks(6);
        int[] low = {2, 9, 9, 9};
        for (int price : low) {
            cheap.name(30, 0, 3, price);
        }
        dueSet(cheap, 5, 4, 0, 1, 2);
        GlobeWorks empty = new GlobeWorks(6);
        Check.due("of no names", empty.cost(0), 0);
    }

    private static void leastWaysOfLikeCosts() {
        Check.sentence("4: of like ones the least ways, from the first NAME on");
        GlobeWorks works = new GlobeWorks(6);
        // 0 1, 0 4, 1 0 and 4 0 cost 1
        works.name(30, 0, 3, 1);
        works.name(30, 0, 3, 1);
        dueSet(works, 1, 0, 1);
        // way 2 for 2 or leaving out for 2
        GlobeWorks two = new GlobeWorks(6);
        two.name(0, 89, 1, 2);
        dueSet(two, 2, 2);
        GlobeWorks one = new GlobeWorks(6);
        one.name(0, 89, 1, 1);
        dueSet(one, 1, 4);
        GlobeWorks three = new GlobeWorks(6);
        three.name(59, 89, 1, 3);
        dueSet(three, 3, 3);
        GlobeWorks below = new GlobeWorks(6);
        below.name(59, 89, 1, 2);
        dueSet(below, 2, 4);
        // 0 1 2 3 costs 6; so does every row of the four ways: the first one is the least
        GlobeWorks four = new GlobeWorks(6);
        for (int k = 0; k < 4; k++) {
            four.name(30, 0, 3, 3);
        }
        dueSet(four, 6, 0, 1, 2, 3);
    }

    private static void waysByNumbers() {
        Check.sentence("4: for its NAMES (at most 6), by numbers");
        GlobeWorks works = new GlobeWorks(6);
        for (int k = 0; k < 6; k++) {
            Check.due("name " + k, works.name(30, 0, 3, 1), k);
        }
        Check.due("a seventh", works.name(30, 0, 3, 1), -1);
        dueSet(works, 5, 0, 1, 4, 4, 4, 4);
        works.strike(0);
        Check.due("the next number", works.name(30, 0, 3, 1), 6);
        dueSet(works, 5, -1, 0, 1, 4, 4, 4, 4);
    }

    private static void freshAtFirst() {
        Check.sentence("5: FRESH (at first all are)");
        for (int number : NUMBERS) {
            GlobeWorks works = new GlobeWorks(number);
            Check.due("fresh gores", works.count(5), number);
            Check.due("the first", works.fresh(0), true);
            Check.due("the last", works.fresh(number - 1), true);
            Check.due("all are printed", works.edition(), number);
        }
    }

    private static void freshByPieces() {
        Check.sentence("5: FRESH if a COAST's PIECE came to it");
        GlobeWorks works = new GlobeWorks(6);
        works.edition();
        works.coast(30, 0);
        dueFresh(works, "000000");
        works.to(0, 60, 0);
        dueFresh(works, "100000");
        works.edition();
        works.to(0, 120, 0);
        dueFresh(works, "010000");
        works.edition();
        works.to(0, 120, 9);
        dueFresh(works, "011000");
        works.edition();
        works.to(0, 0, 9);
        dueFresh(works, "110000");
        works.edition();
        works.to(0, 0, 0);
        dueFresh(works, "100001");
    }

    private static void freshByNames() {
        Check.sentence("5: FRESH if a NAME came to it or went");
        GlobeWorks works = new GlobeWorks(6);
        works.edition();
        works.name(60, 0, 1, 1);
        dueFresh(works, "010000");
        works.edition();
        works.strike(0);
        dueFresh(works, "010000");
        works.edition();
        // it is left out, but it came
        works.name(359, 90, 20, 1);
        dueFresh(works, "000001");
        works.edition();
        works.name(359, 0, 1, 1);
        works.strike(2);
        dueFresh(works, "000001");
    }

    private static void freshByPaper() {
        Check.sentence("5: FRESH if PAPER changed");
        GlobeWorks works = new GlobeWorks(6);
        works.edition();
        works.paper(0, 0);
        works.paper(0, 51);
        dueFresh(works, "000000");
        works.paper(1, 0);
        dueFresh(works, "111111");
        works.edition();
        works.paper(1, 1);
        dueFresh(works, "111111");
        works.edition();
        works.paper(1, 1);
        dueFresh(works, "000000");
        works.paper(2, 2);
        works.paper(1, 1);
        dueFresh(works, "111111");
    }

    private static void notFreshWhenPrinted() {
        Check.sentence("5: all that are FRESH are printed; they aren't FRESH then");
        GlobeWorks works = new GlobeWorks(6);
        Check.due("all", works.edition(), 6);
        dueFresh(works, "000000");
        Check.due("none", works.edition(), 0);
        works.name(100, 0, 1, 1);
        Check.due("one", works.edition(), 1);
        dueFresh(works, "000000");
        Check.due("printed", works.printed(1), 3);
        Check.due("not printed", works.printed(0), 1);
    }

    private static void firstEdition() {
        Check.sentence("5: it has a number (1 the first)");
        GlobeWorks works = new GlobeWorks(6);
        Check.due("no edition", works.count(4), 0);
        Check.due("not printed", works.printed(0), 0);
        works.edition();
        Check.due("one edition", works.count(4), 1);
        Check.due("printed", works.printed(0), 1);
    }
}
