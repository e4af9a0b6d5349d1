/** Promises 17 to 20: fresh, edition, printed, count. */
public final class EditionsTest {
    public static void main(String[] args) {
        coastsMakeFresh();
        uprightCoastOnAnEdgeMakesBothFresh();
        namesMakeFresh();
        paperMakesAllFresh();
        goingBackIsAChangeToo();
        askingMakesNothingFresh();
        editionsAreNumbered();
        wrongGores();
        counts();
        Check.end();
    }

    private static void dueFresh(GlobeWorks works, int... due) {
        Check.due("fresh gores", works.count(5), due.length);
        for (int gore : due) {
            Check.due("fresh " + gore, works.fresh(gore), true);
        }
    }

    private static GlobeWorks printedOnce() {
        GlobeWorks works = new GlobeWorks(6);
        Check.due("the first edition", works.edition(), 6);
        dueFresh(works);
        return works;
    }

    private static void coastsMakeFresh() {
        GlobeWorks works = printedOnce();
        works.coast(70, 0);
        dueFresh(works);
        works.to(0, 120, 5);
        dueFresh(works, 1);
        works.to(0, 170, 5);
        dueFresh(works, 1, 2);
        Check.due("edition", works.edition(), 2);
        dueFresh(works);
        works.to(0, 50, 5);
        dueFresh(works, 0, 1, 2);
    }

    private static void uprightCoastOnAnEdgeMakesBothFresh() {
        GlobeWorks works = printedOnce();
        works.coast(0, 0);
        works.to(0, 0, 5);
        dueFresh(works, 0, 5);
    }

    private static void namesMakeFresh() {
        GlobeWorks works = printedOnce();
        works.name(60, 0, 1, 1);
        dueFresh(works, 1);
        Check.due("edition", works.edition(), 1);
        works.strike(0);
        dueFresh(works, 1);
        Check.due("edition", works.edition(), 1);
        works.strike(0);
        dueFresh(works);
        works.name(0, 0, 20, 1);
        Check.due("it is left out", works.set(1), 4);
        dueFresh(works, 0);
    }

    private static void paperMakesAllFresh() {
        GlobeWorks works = printedOnce();
        works.paper(0, 0);
        works.paper(51, 0);
        dueFresh(works);
        works.paper(0, 1);
        dueFresh(works, 0, 1, 2, 3, 4, 5);
        Check.due("edition", works.edition(), 6);
        works.paper(1, 1);
        dueFresh(works, 0, 1, 2, 3, 4, 5);
    }

    private static void goingBackIsAChangeToo() {
        GlobeWorks works = printedOnce();
        works.paper(5, 0);
        works.paper(0, 0);
        dueFresh(works, 0, 1, 2, 3, 4, 5);
        works.edition();
        works.name(200, 0, 1, 1);
        works.strike(0);
        dueFresh(works, 3);
    }

    private static void askingMakesNothingFresh() {
        GlobeWorks works = new GlobeWorks(6);
        works.name(10, 10, 2, 3);
        works.coast(10, 10);
        works.to(0, 11, 11);
        works.edition();
        works.narrow(5);
        works.across(1, 1);
        works.pieces(0);
        works.piece(0, 0, 0);
        works.drawn(1, 1);
        works.wet(1, 1);
        works.may(0, 0);
        works.set(0);
        works.cost(0);
        works.told(0, 0);
        works.fresh(0);
        works.printed(0);
        works.count(5);
        dueFresh(works);
    }

    private static void editionsAreNumbered() {
        GlobeWorks works = printedOnce();
        for (int gore = 0; gore < 6; gore++) {
            Check.due("printed " + gore, works.printed(gore), 1);
        }
        Check.due("one without fresh gores", works.edition(), 0);
        Check.due("it has a number too", works.count(4), 2);
        Check.due("printed", works.printed(0), 1);
        works.name(130, 0, 1, 1);
        Check.due("the third", works.edition(), 1);
        Check.due("printed 2", works.printed(2), 3);
        Check.due("printed 1", works.printed(1), 1);
        Check.due("count", works.count(4), 3);
        works.paper(1, 2);
        Check.due("not before it is printed", works.printed(2), 3);
        Check.due("the fourth", works.edition(), 6);
        Check.due("printed 1", works.printed(1), 4);
    }

    private static void wrongGores() {
        GlobeWorks works = new GlobeWorks(6);
        int[] gores = {-1, 6, Check.MIN, Check.MAX};
        for (int gore : gores) {
            Check.due("fresh " + gore, works.fresh(gore), false);
            Check.due("printed " + gore, works.printed(gore), -1);
        }
    }

    private static void counts() {
        GlobeWorks works = new GlobeWorks(10);
        works.coast(0, 0);
        works.coast(5, 0);
        works.to(0, 40, 0);
        works.to(1, 5, 3);
        works.name(1, 1, 1, 1);
        works.name(2, 2, 2, 2);
        works.name(3, 3, 3, 3);
        works.strike(1);
        works.edition();
        works.to(0, 100, 7);
        int[] due = {10, 2, 5, 2, 1, 2};
        for (int what = 0; what < 6; what++) {
            Check.due("count " + what, works.count(what), due[what]);
        }
        int[] others = {-1, 6, Check.MIN, Check.MAX};
        for (int what : others) {
            Check.due("count " + what, works.count(what), -1);
        }
    }
}
