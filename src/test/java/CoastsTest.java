/** Promises 4 to 7: coast, to, pieces, piece. */
public final class CoastsTest {
    public static void main(String[] args) {
        coastsAreNumbered();
        coastsAreThirtyAtMost();
        wrongPlaces();
        stepWithinOneGore();
        stepOfOneDegree();
        stepOverTheEnd();
        stepToEdgeAndOn();
        stepWestFromEdge();
        uprightSteps();
        heightsAreOneForBothGores();
        heightsThereAndBack();
        shorterWay();
        refusedSteps();
        refusedStepLeavesThePlace();
        sixHundredPieces();
        sixHundredPiecesAtAnEdge();
        piecesAreInOrder();
        wrongPieces();
        Check.end();
    }

    private static void duePiece(GlobeWorks works, int gore, int i, int... due) {
        for (int what = 0; what < 5; what++) {
            Check.due("piece " + gore + ", " + i + ", " + what, works.piece(gore, i, what), due[what]);
        }
    }

    private static void coastsAreNumbered() {
        GlobeWorks works = new GlobeWorks(6);
        Check.due("first", works.coast(0, -90), 0);
        Check.due("second, the same place", works.coast(0, -90), 1);
        Check.due("third", works.coast(359, 90), 2);
        Check.due("count", works.count(1), 3);
        Check.due("no pieces", works.count(2), 0);
    }

    private static void coastsAreThirtyAtMost() {
        GlobeWorks works = new GlobeWorks(6);
        for (int k = 0; k < 30; k++) {
            Check.due("coast " + k, works.coast(k, k), k);
        }
        Check.due("the 31st", works.coast(1, 1), -1);
        Check.due("count", works.count(1), 30);
        Check.due("none such", works.to(30, 5, 5), -1);
        Check.due("the last goes on", works.to(29, 29, 30), 1);
        duePiece(works, 0, 0, 29, -2, 1740, -2, 1800);
    }

    private static void wrongPlaces() {
        GlobeWorks works = new GlobeWorks(6);
        int[] longitudes = {-1, 360, 361, Check.MIN, Check.MAX};
        int[] latitudes = {-91, 91, Check.MIN, Check.MAX};
        works.coast(10, 10);
        for (int longitude : longitudes) {
            Check.due("coast " + longitude, works.coast(longitude, 0), -1);
            Check.due("to " + longitude, works.to(0, longitude, 0), -1);
        }
        for (int latitude : latitudes) {
            Check.due("coast at " + latitude, works.coast(0, latitude), -1);
            Check.due("to at " + latitude, works.to(0, 0, latitude), -1);
        }
        Check.due("count", works.count(1), 1);
        Check.due("pieces", works.count(2), 0);
    }

    private static void stepWithinOneGore() {
        GlobeWorks works = new GlobeWorks(8);
        works.coast(50, -10);
        Check.due("to", works.to(0, 80, 10), 1);
        duePiece(works, 1, 0, 0, -35, -600, 25, 600);
        Check.due("back", works.to(0, 46, 10), 1);
        duePiece(works, 1, 1, 0, 25, 600, -43, 600);
        Check.due("count", works.count(2), 2);
        Check.due("beside", works.pieces(0), 0);
    }

    private static void stepOfOneDegree() {
        GlobeWorks works = new GlobeWorks(24);
        works.coast(359, 80);
        Check.due("east", works.to(0, 0, -90), 1);
        duePiece(works, 23, 0, 0, 13, 4800, 15, -5400);
        Check.due("west", works.to(0, 359, 90), 1);
        duePiece(works, 23, 1, 0, 15, -5400, 13, 5400);
    }

    private static void stepOverTheEnd() {
        GlobeWorks works = new GlobeWorks(12);
        works.coast(350, 0);
        Check.due("east", works.to(0, 10, 20), 2);
        duePiece(works, 11, 0, 0, 10, 0, 30, 600);
        duePiece(works, 0, 0, 0, -30, 600, -10, 1200);
        Check.due("west", works.to(0, 350, 0), 2);
        duePiece(works, 0, 1, 0, -10, 1200, -30, 600);
        duePiece(works, 11, 1, 0, 30, 600, 10, 0);
    }

    private static void stepToEdgeAndOn() {
        GlobeWorks works = new GlobeWorks(9);
        works.coast(20, 0);
        Check.due("to the edge", works.to(0, 40, 0), 1);
        duePiece(works, 0, 0, 0, 0, 0, 40, 0);
        Check.due("on from the edge", works.to(0, 60, 0), 1);
        duePiece(works, 1, 0, 0, -40, 0, 0, 0);
        Check.due("from within over one edge to the next", works.to(0, 120, 0), 2);
        duePiece(works, 1, 1, 0, 0, 0, 40, 0);
        duePiece(works, 2, 0, 0, -40, 0, 40, 0);
        Check.due("nothing behind it", works.pieces(3), 0);
        Check.due("to 0, which is 360", works.to(0, 240, 0), 3);
        Check.due("over gores to 0", works.to(0, 0, 0), 3);
        duePiece(works, 8, 0, 0, -40, 0, 40, 0);
        Check.due("gore 0 has one", works.pieces(0), 1);
    }

    private static void stepWestFromEdge() {
        GlobeWorks works = new GlobeWorks(9);
        works.coast(0, 1);
        Check.due("west from 0", works.to(0, 320, 1), 1);
        duePiece(works, 8, 0, 0, 40, 60, -40, 60);
        Check.due("west on", works.to(0, 319, 1), 1);
        duePiece(works, 7, 0, 0, 40, 60, 38, 60);
        Check.due("west to an edge", works.to(0, 280, 1), 1);
        duePiece(works, 7, 1, 0, 38, 60, -40, 60);
        Check.due("gore 6", works.pieces(6), 0);
    }

    private static void uprightSteps() {
        GlobeWorks works = new GlobeWorks(24);
        works.coast(7, -90);
        Check.due("within", works.to(0, 7, 90), 1);
        duePiece(works, 0, 0, 0, -1, -5400, -1, 5400);
        works.coast(0, 3);
        Check.due("on the edge 0", works.to(1, 0, -4), 2);
        duePiece(works, 0, 1, 1, -15, 180, -15, -240);
        duePiece(works, 23, 0, 1, 15, 180, 15, -240);
        works.coast(345, 0);
        Check.due("on the edge 345", works.to(2, 345, 1), 2);
        duePiece(works, 23, 1, 2, -15, 0, -15, 60);
        duePiece(works, 22, 0, 2, 15, 0, 15, 60);
        Check.due("count", works.count(2), 5);
    }

    private static void heightsAreOneForBothGores() {
        GlobeWorks works = new GlobeWorks(20);
        works.coast(7, -31);
        Check.due("to", works.to(0, 140, 44), 8);
        for (int gore = 0; gore < 7; gore++) {
            Check.due("end side " + gore, works.piece(gore, 0, 3), 18);
            Check.due("begin side " + (gore + 1), works.piece(gore + 1, 0, 1), -18);
            Check.due("one height at " + (gore + 1), works.piece(gore, 0, 4),
                    works.piece(gore + 1, 0, 2));
        }
        // -1860 and 4500 * 11 by 133: 372.18; 4500 * 47 by 133: 1590.2
        Check.due("at 18", works.piece(0, 0, 4), -1488);
        Check.due("at 54", works.piece(2, 0, 4), -270);
        Check.due("end", works.piece(7, 0, 4), 2640);
    }

    private static void heightsThereAndBack() {
        GlobeWorks works = new GlobeWorks(15);
        works.coast(22, 0);
        // the rise of 60 by 8 degrees: at 24 it is 15; half of 15 by 4 degrees is 7.5, up to 8
        Check.due("up", works.to(0, 30, 1), 2);
        duePiece(works, 0, 0, 0, 20, 0, 24, 15);
        duePiece(works, 1, 0, 0, -24, 15, -12, 60);
        GlobeWorks other = new GlobeWorks(24);
        other.coast(11, 0);
        // 60 * 4 by 8 is 30; 60 * 4 by 32 is 7.5: rounded up to 8; -7.5 to -7
        Check.due("half up", other.to(0, 43, 1), 3);
        Check.due("at 15", other.piece(0, 0, 4), 8);
        Check.due("at 30", other.piece(1, 0, 4), 36);
        other.coast(11, 0);
        Check.due("half of a fall", other.to(1, 43, -1), 3);
        Check.due("fall at 15", other.piece(0, 1, 4), -7);
        Check.due("fall at 30", other.piece(1, 1, 4), -36);
        // from the other end: 60 - (60 * 28 by 32: 52.5, of the fall -52) is 8
        Check.due("back", other.to(0, 11, 0), 3);
        Check.due("back at 15", other.piece(0, 2, 2), 8);
    }

    private static void shorterWay() {
        GlobeWorks works = new GlobeWorks(6);
        works.coast(0, 0);
        Check.due("179 east", works.to(0, 179, 0), 3);
        Check.due("gore 2", works.piece(2, 0, 3), 58);
        works.coast(0, 0);
        Check.due("179 west", works.to(1, 181, 0), 3);
        duePiece(works, 3, 0, 1, 60, 0, -58, 0);
        works.coast(270, 0);
        Check.due("180 over the end", works.to(2, 90, 0), -1);
        Check.due("179 over the end", works.to(2, 89, 0), 4);
        Check.due("gore 5", works.pieces(5), 2);
    }

    private static void refusedSteps() {
        GlobeWorks works = new GlobeWorks(10);
        works.coast(10, 10);
        works.edition();
        Check.due("none such", works.to(1, 20, 20), -1);
        Check.due("none such", works.to(-1, 20, 20), -1);
        Check.due("none such", works.to(Check.MIN, 20, 20), -1);
        Check.due("none such", works.to(Check.MAX, 20, 20), -1);
        Check.due("already there", works.to(0, 10, 10), -1);
        Check.due("180 degrees", works.to(0, 190, 10), -1);
        Check.due("180 degrees, other latitude", works.to(0, 190, -80), -1);
        Check.due("pieces", works.count(2), 0);
        Check.due("fresh", works.count(5), 0);
        Check.due("at the pole", works.to(0, 10, 90), 1);
        Check.due("another place at the pole", works.to(0, 11, 90), 1);
        Check.due("180 degrees at the pole", works.to(0, 191, 90), -1);
    }

    private static void refusedStepLeavesThePlace() {
        GlobeWorks works = new GlobeWorks(10);
        works.coast(10, 10);
        works.to(0, 190, 0);
        works.to(0, 400, 0);
        works.to(0, 12, 91);
        Check.due("on from the first place", works.to(0, 12, 11), 1);
        duePiece(works, 0, 0, 0, -16, 600, -12, 660);
    }

    private static void sixHundredPieces() {
        GlobeWorks works = new GlobeWorks(24);
        works.coast(1, 0);
        for (int k = 0; k < 49; k++) {
            Check.due("step " + k, works.to(0, k % 2 == 0 ? 179 : 1, 0), 12);
        }
        Check.due("588", works.count(2), 588);
        works.coast(1, 0);
        Check.due("11", works.to(1, 164, 0), 11);
        Check.due("599", works.count(2), 599);
        works.edition();
        Check.due("two more would be 601", works.to(1, 166, 0), -1);
        Check.due("599 still", works.count(2), 599);
        Check.due("none fresh", works.count(5), 0);
        Check.due("one more", works.to(1, 165, 0), 1);
        Check.due("600", works.count(2), 600);
        Check.due("none more", works.to(1, 166, 0), -1);
        Check.due("nor of another coast", works.to(0, 178, 0), -1);
        Check.due("fresh", works.count(5), 1);
        int all = 0;
        for (int gore = 0; gore < 24; gore++) {
            all += works.pieces(gore);
        }
        Check.due("together", all, 600);
        duePiece(works, 10, works.pieces(10) - 1, 1, 13, 0, 15, 0);
    }

    private static void sixHundredPiecesAtAnEdge() {
        GlobeWorks works = new GlobeWorks(24);
        works.coast(0, 0);
        for (int k = 0; k < 299; k++) {
            Check.due("upright " + k, works.to(0, 0, k % 2 == 0 ? 1 : 0), 2);
        }
        works.coast(1, 0);
        Check.due("599", works.to(1, 1, 1), 1);
        Check.due("601 would be", works.to(0, 0, 5), -1);
        Check.due("599 still", works.count(2), 599);
        Check.due("600", works.to(1, 1, 2), 1);
        Check.due("gore 0", works.pieces(0), 301);
        Check.due("gore 23", works.pieces(23), 299);
    }

    private static void piecesAreInOrder() {
        GlobeWorks works = new GlobeWorks(18);
        for (int k = 0; k < 5; k++) {
            works.coast(25, k);
        }
        for (int k = 4; k >= 0; k--) {
            Check.due("to", works.to(k, 26, k), 1);
        }
        for (int i = 0; i < 5; i++) {
            duePiece(works, 1, i, 4 - i, -10, 60 * (4 - i), -8, 60 * (4 - i));
        }
    }

    private static void wrongPieces() {
        GlobeWorks works = new GlobeWorks(6);
        works.coast(1, 1);
        works.to(0, 2, 2);
        int[] gores = {-1, 6, Check.MIN, Check.MAX};
        for (int gore : gores) {
            Check.due("pieces " + gore, works.pieces(gore), -1);
        }
        int[][] missing = {{-1, 0}, {6, 0}, {0, 1}, {0, -1}, {1, 0}, {0, Check.MIN},
            {0, Check.MAX}, {Check.MIN, 0}, {Check.MAX, 0}};
        for (int[] at : missing) {
            Check.due("coast of none", works.piece(at[0], at[1], 0), -1);
            for (int what = 1; what <= 4; what++) {
                Check.due("piece of none " + what, works.piece(at[0], at[1], what), Check.MIN);
            }
        }
        int[] others = {-1, 5, Check.MIN, Check.MAX};
        for (int what : others) {
            Check.due("piece what " + what, works.piece(0, 0, what), -1);
            Check.due("piece of none, what " + what, works.piece(0, 7, what), -1);
            Check.due("piece of no gore, what " + what, works.piece(9, 0, what), -1);
        }
    }
}
