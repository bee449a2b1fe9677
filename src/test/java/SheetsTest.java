/** Promises 27 to 30: sheet, mark, copy, take. */
public final class SheetsTest {
    private static final Due d = new Due();

    public static void main(String[] args) {
        sheets();
        marks();
        copies();
        copiesOverItself();
        copiesRefused();
        takes();
        d.end("SheetsTest");
    }

    private static void sheets() {
        CourtHouse x = new CourtHouse();
        d.due("13 places", x.sheet(0, 13), Due.BAD);
        d.due("-1 places", x.sheet(0, -1), Due.SIZE);
        d.due("min places", x.sheet(1, Integer.MIN_VALUE), Due.SIZE);
        d.due("max places", x.sheet(1, Integer.MAX_VALUE), Due.BAD);
        d.due("BAD ahead of SIZE", x.sheet(2, -1), Due.BAD);
        for (int wild : Due.WILD) {
            d.due("no sheet", x.sheet(wild, 1), Due.BAD);
        }
        d.due("still missing", x.count(6), 0);
        d.due("0 places", x.sheet(0, 0), 0);
        d.due("12 places", x.sheet(1, 12), 12);
        for (int place = 0; place < 12; place++) {
            d.due("all 0", x.mark(1, place, 9), 0);
        }
        d.due("12 again", x.sheet(1, 12), 12);
        d.due("all 0 again", x.mark(1, 11, 9), 0);
        d.due("SIZE changes nothing", x.sheet(1, -5), Due.SIZE);
        d.due("as it was", x.mark(1, 11, 8), 9);
        d.due("2 places", x.sheet(1, 2), 2);
        d.due("no place 2", x.mark(1, 2, 1), Due.INDEX);
        x.mark(1, 0, 4);
        x.mark(1, 1, 5);
        x.sheet(1, 3);
        d.due("all 0 as it grows", x.mark(1, 0, 5), 0);
        d.due("all 0 as it grows", x.mark(1, 1, 5), 0);
    }

    private static void marks() {
        CourtHouse x = new CourtHouse();
        d.due("missing", x.mark(0, 0, 0), Due.NOTHING);
        d.due("missing ahead of the place", x.mark(0, 99, 0), Due.NOTHING);
        x.sheet(0, 2);
        d.due("the other is missing", x.mark(1, 0, 0), Due.NOTHING);
        d.due("BAD", x.mark(2, 0, 0), Due.BAD);
        d.due("BAD", x.mark(-1, 0, 0), Due.BAD);
        int[] v = {127, 128, 255, 256, -128, -129, Integer.MIN_VALUE, Integer.MAX_VALUE, 0};
        long[] was = {0, 127, -128, -1, 0, -128, 127, 0, -1};
        for (int i = 0; i < v.length; i++) {
            d.due("mark " + v[i], x.mark(0, 1, v[i]), was[i]);
        }
        d.due("the other place", x.mark(0, 0, 0), 0);
        for (int wild : Due.WILD) {
            d.due("no place", x.mark(0, wild, 1), Due.INDEX);
            d.due("no sheet", x.mark(wild, 0, 1), Due.BAD);
        }
        x.sheet(1, 0);
        d.due("no place in an empty one", x.mark(1, 0, 1), Due.INDEX);
    }

    private static CourtHouse twoSheets() {
        CourtHouse x = new CourtHouse();
        x.sheet(0, 12);
        x.sheet(1, 5);
        for (int place = 0; place < 12; place++) {
            x.mark(0, place, place + 1);
        }
        for (int place = 0; place < 5; place++) {
            x.mark(1, place, 100 + place);
        }
        return x;
    }

    private static void holds(CourtHouse x, int s, long... due) {
        for (int place = 0; place < due.length; place++) {
            d.due("sheet " + s + " at " + place, x.mark(s, place, (int) due[place]), due[place]);
        }
    }

    private static void copies() {
        CourtHouse x = twoSheets();
        d.due("copy", x.copy(0, 9, 1, 1, 3), 3);
        holds(x, 1, 100, 10, 11, 12, 104);
        d.due("copy back", x.copy(1, 0, 0, 10, 2), 2);
        holds(x, 0, 1, 2, 3, 4, 5, 6, 7, 8, 9, 10, 100, 10);
        d.due("copy none", x.copy(0, 0, 1, 0, 0), 0);
        d.due("copy none at the ends", x.copy(0, 12, 1, 5, 0), 0);
        holds(x, 1, 100, 10, 11, 12, 104);
        d.due("copy a whole one", x.copy(1, 0, 0, 0, 5), 5);
        holds(x, 0, 100, 10, 11, 12, 104, 6);
    }

    private static void copiesOverItself() {
        CourtHouse x = twoSheets();
        d.due("up", x.copy(1, 0, 1, 1, 4), 4);
        holds(x, 1, 100, 100, 101, 102, 103);
        d.due("down", x.copy(1, 1, 1, 0, 4), 4);
        holds(x, 1, 100, 101, 102, 103, 103);
        d.due("onto itself", x.copy(1, 0, 1, 0, 5), 5);
        holds(x, 1, 100, 101, 102, 103, 103);
    }

    private static void copiesRefused() {
        CourtHouse y = new CourtHouse();
        d.due("BAD ahead of NOTHING", y.copy(2, 0, 0, 0, 1), Due.BAD);
        d.due("BAD ahead of NOTHING", y.copy(0, 0, -1, 0, 1), Due.BAD);
        y.sheet(0, 3);
        d.due("to a missing one", y.copy(0, 0, 1, 0, 0), Due.NOTHING);
        d.due("from a missing one", y.copy(1, 0, 0, 0, 0), Due.NOTHING);
        d.due("NOTHING ahead of INDEX", y.copy(0, 9, 1, 9, 9), Due.NOTHING);
        CourtHouse x = twoSheets();
        d.due("too many for the second", x.copy(0, 0, 1, 0, 6), Due.INDEX);
        d.due("too many for the first", x.copy(1, 0, 0, 0, 6), Due.INDEX);
        d.due("place too far", x.copy(0, 10, 1, 0, 3), Due.INDEX);
        d.due("at too far", x.copy(0, 0, 1, 4, 2), Due.INDEX);
        d.due("none, behind the end", x.copy(0, 13, 1, 0, 0), Due.INDEX);
        d.due("none, behind the end", x.copy(0, 0, 1, 6, 0), Due.INDEX);
        d.due("wraps", x.copy(0, 1, 1, 1, Integer.MAX_VALUE), Due.INDEX);
        d.due("wraps", x.copy(0, Integer.MAX_VALUE, 1, 1, Integer.MAX_VALUE), Due.INDEX);
        d.due("below 0 many", x.copy(0, 1, 1, 1, -1), Due.INDEX);
        for (int wild : Due.WILD) {
            d.due("place", x.copy(0, wild, 1, 0, 1), Due.INDEX);
            d.due("at", x.copy(0, 0, 1, wild, 1), Due.INDEX);
            d.due("many", x.copy(0, 0, 1, 0, wild), Due.INDEX);
            d.due("from", x.copy(wild, 0, 1, 0, 1), Due.BAD);
            d.due("to", x.copy(0, 0, wild, 0, 1), Due.BAD);
        }
        holds(x, 0, 1, 2, 3, 4, 5, 6, 7, 8, 9, 10, 11, 12);
        holds(x, 1, 100, 101, 102, 103, 104);
    }

    private static void takes() {
        CourtHouse x = new CourtHouse();
        for (int i = 0; i < 4; i++) {
            x.newCase(i % 3, 1, 50 + i);
        }
        d.due("missing", x.take(0), Due.NOTHING);
        x.sheet(0, 0);
        d.due("none", x.take(0), 0);
        x.sheet(0, 2);
        x.mark(0, 0, 100);
        d.due("fewer places", x.take(0), 2);
        long[] due = {100, 0, 52, 53};
        for (int i = 0; i < 4; i++) {
            d.due("fold", x.told(i, 3), due[i]);
        }
        x.sheet(1, 6);
        x.mark(1, 3, 33);
        x.mark(1, 4, 101);
        d.due("fewer cases: those behind are not looked at", x.take(1), 4);
        d.due("fold", x.told(3, 3), 33);
        d.due("fold", x.told(0, 3), 0);
        x.mark(1, 0, 101);
        d.due("101 first", x.take(1), Due.NO);
        x.mark(1, 0, 77);
        x.mark(1, 3, 101);
        d.due("101", x.take(1), Due.NO);
        x.mark(1, 3, -1);
        d.due("-1", x.take(1), Due.NO);
        d.due("none changed", x.told(0, 3), 0);
        x.mark(1, 3, 256 + 100);
        d.due("as a byte", x.take(1), 4);
        d.due("fold", x.told(3, 3), 100);
        d.due("BAD", x.take(2), Due.BAD);
        for (int wild : Due.WILD) {
            d.due("take", x.take(wild), Due.BAD);
        }
    }
}
