/** The boundary cases that SHEETS and FINDINGS in section 5 of the Terms and promises 27 to 30 name. */
public final class EdgesOfSheetsTest {
    private static final Due d = new Due();

    public static void main(String[] args) {
        missingAtFirst();
        zeroToTwelvePlaces();
        allPlacesAreZero();
        belowZeroAndAboveTwelve();
        placesOfASheet();
        asAByte();
        copiesOfAll();
        copiesOfNone();
        copiesUpAndDown();
        copiesToTheLastPlace();
        copiesThatAreRefused();
        takesAsManyAsBothHave();
        takesZeroToHundred();
        takeThatIsRefused();
        d.end("EdgesOfSheetsTest");
    }

    private static Run run() {
        return new Run(d);
    }

    private static Run twoSheets(int first, int second) {
        Run x = run().go("sheet(0, " + first + ") = " + first, "sheet(1, " + second + ") = " + second);
        for (int place = 0; place < first; place++) {
            x.go("mark(0, " + place + ", " + (place + 1) + ") = 0");
        }
        for (int place = 0; place < second; place++) {
            x.go("mark(1, " + place + ", " + (place + 21) + ") = 0");
        }
        return x;
    }

    /** Marks each place with what it has, so that nothing changes. */
    private static void holds(Run x, int s, int... due) {
        for (int place = 0; place < due.length; place++) {
            x.go("mark(" + s + ", " + place + ", " + due[place] + ") = " + due[place]);
        }
        x.go("mark(" + s + ", " + due.length + ", 0) = INDEX");
    }

    private static void missingAtFirst() {
        d.says("SHEETS 0, 1 are rows of bytes .., or MISSING. NOTHING: a SHEET is MISSING");
        run().go("mark(0, 0, 1) = NOTHING", "mark(1, 0, 1) = NOTHING", "take(0) = NOTHING", "take(1) = NOTHING",
                "copy(0, 0, 1, 0, 0) = NOTHING", "copy(0, 0, 0, 0, 0) = NOTHING", "count(6) = 0", "sheet(1, 1) = 1",
                "mark(0, 0, 1) = NOTHING", "mark(1, 0, 1) = 0", "copy(0, 0, 1, 0, 1) = NOTHING",
                "copy(1, 0, 0, 0, 1) = NOTHING", "copy(1, 0, 1, 0, 1) = 1", "take(0) = NOTHING", "take(1) = 0",
                "count(6) = 1", "mark(2, 0, 1) = BAD", "mark(-1, 0, 1) = BAD", "take(2) = BAD", "take(-1) = BAD",
                "sheet(2, 1) = BAD", "sheet(-1, 1) = BAD");
        d.says("a SHEET of 0 places is not MISSING");
        run().go("sheet(0, 0) = 0", "count(6) = 1", "mark(0, 0, 1) = INDEX", "take(0) = 0", "copy(0, 0, 0, 0, 0) = 0",
                "copy(0, 0, 0, 0, 1) = INDEX", "sheet(1, 0) = 0", "copy(0, 0, 1, 0, 0) = 0", "copy(0, 0, 1, 0, 1) = INDEX");
    }

    private static void zeroToTwelvePlaces() {
        d.says("rows of bytes with 0 to 12 places");
        for (int n = 0; n <= 12; n++) {
            Run x = run().go("sheet(0, 12) = 12", "sheet(1, " + n + ") = " + n, "sheet(0, " + n + ") = " + n);
            for (int s = 0; s < 2; s++) {
                x.go("mark(" + s + ", " + n + ", 1) = INDEX", "mark(" + s + ", -1, 1) = INDEX");
                if (n > 0) {
                    x.go("mark(" + s + ", " + (n - 1) + ", 1) = 0", "mark(" + s + ", 0, 1)");
                }
            }
        }
    }

    private static void allPlacesAreZero() {
        d.says("A SHEET has n places, all 0: n.");
        Run x = twoSheets(12, 12).go("sheet(0, 12) = 12");
        holds(x, 0, 0, 0, 0, 0, 0, 0, 0, 0, 0, 0, 0, 0);
        holds(x, 1, 21, 22, 23, 24, 25, 26, 27, 28, 29, 30, 31, 32);
        d.says("fewer places and more again: all 0");
        x.go("sheet(1, 1) = 1");
        holds(x, 1, 0);
        x.go("mark(1, 0, 5) = 0", "sheet(1, 12) = 12");
        holds(x, 1, 0, 0, 0, 0, 0, 0, 0, 0, 0, 0, 0, 0);
        x.go("mark(1, 11, 5) = 0", "sheet(1, 0) = 0", "sheet(1, 12) = 12", "mark(1, 11, 0) = 0");
    }

    private static void belowZeroAndAboveTwelve() {
        d.says("BAD: sheet, n above 12; SIZE: a number of places is below 0");
        Run x = twoSheets(3, 12);
        x.go("sheet(0, 13) = BAD", "sheet(0, -1) = SIZE", "sheet(2, -1) = BAD", "sheet(-1, -1) = BAD");
        x.go("sheet(0, " + Integer.MAX_VALUE + ") = BAD", "sheet(0, " + Integer.MIN_VALUE + ") = SIZE");
        x.go("sheet(1, 13) = BAD", "sheet(1, -1) = SIZE", "count(6) = 2");
        holds(x, 0, 1, 2, 3);
        holds(x, 1, 21, 22, 23, 24, 25, 26, 27, 28, 29, 30, 31, 32);
        run().go("sheet(0, -1) = SIZE", "sheet(1, 13) = BAD", "count(6) = 0", "mark(0, 0, 1) = NOTHING");
    }

    private static void placesOfASheet() {
        d.says("INDEX: there is no such place");
        Run x = twoSheets(12, 2);
        x.go("mark(0, 12, 9) = INDEX", "mark(0, -1, 9) = INDEX", "mark(1, 2, 9) = INDEX", "mark(1, -1, 9) = INDEX");
        x.go("mark(0, " + Integer.MAX_VALUE + ", 9) = INDEX", "mark(1, " + Integer.MIN_VALUE + ", 9) = INDEX");
        d.says("one sheet's last place is not the other's first");
        x.go("mark(0, 11, 99) = 12", "mark(1, 0, 98) = 21");
        holds(x, 0, 1, 2, 3, 4, 5, 6, 7, 8, 9, 10, 11, 99);
        holds(x, 1, 98, 22);
    }

    private static void asAByte() {
        d.says("A place of a SHEET becomes v (as a byte): what it was.");
        Run x = run().go("sheet(0, 3) = 3");
        x.go("mark(0, 1, 127) = 0", "mark(0, 1, 128) = 127", "mark(0, 1, 129) = -128", "mark(0, 1, 255) = -127",
                "mark(0, 1, 256) = -1", "mark(0, 1, 257) = 0", "mark(0, 1, -1) = 1", "mark(0, 1, -128) = -1",
                "mark(0, 1, -129) = -128", "mark(0, 1, -256) = 127", "mark(0, 1, -257) = 0", "mark(0, 1, 356) = -1",
                "mark(0, 1, " + Integer.MAX_VALUE + ") = 100", "mark(0, 1, " + Integer.MIN_VALUE + ") = -1",
                "mark(0, 1, 0) = 0");
        holds(x, 0, 0, 0, 0);
    }

    private static void copiesOfAll() {
        d.says("So many places of a SHEET come to another one (or the same), as they were: many.");
        Run x = twoSheets(12, 12).go("copy(0, 0, 1, 0, 12) = 12");
        holds(x, 1, 1, 2, 3, 4, 5, 6, 7, 8, 9, 10, 11, 12);
        holds(x, 0, 1, 2, 3, 4, 5, 6, 7, 8, 9, 10, 11, 12);
        x.go("copy(0, 0, 1, 0, 13) = INDEX", "copy(1, 0, 1, 0, 12) = 12");
        holds(x, 1, 1, 2, 3, 4, 5, 6, 7, 8, 9, 10, 11, 12);
        x = twoSheets(3, 3).go("mark(1, 1, -128) = 22", "copy(1, 1, 0, 0, 1) = 1");
        holds(x, 0, -128, 2, 3);
    }

    private static void copiesOfNone() {
        d.says("So many places: none");
        Run x = twoSheets(3, 2).go("copy(0, 0, 1, 0, 0) = 0", "copy(0, 3, 1, 2, 0) = 0", "copy(1, 2, 0, 3, 0) = 0");
        x.go("copy(0, 4, 1, 0, 0) = INDEX", "copy(0, 0, 1, 3, 0) = INDEX", "copy(0, -1, 1, 0, 0) = INDEX");
        x.go("copy(0, 0, 1, -1, 0) = INDEX", "copy(0, 0, 1, 0, -1) = INDEX");
        holds(x, 0, 1, 2, 3);
        holds(x, 1, 21, 22);
    }

    private static void copiesUpAndDown() {
        d.says("(or the same), as they were");
        Run x = twoSheets(12, 1).go("copy(0, 0, 0, 1, 11) = 11");
        holds(x, 0, 1, 1, 2, 3, 4, 5, 6, 7, 8, 9, 10, 11);
        x = twoSheets(12, 1).go("copy(0, 1, 0, 0, 11) = 11");
        holds(x, 0, 2, 3, 4, 5, 6, 7, 8, 9, 10, 11, 12, 12);
        x = twoSheets(5, 1).go("copy(0, 0, 0, 2, 3) = 3");
        holds(x, 0, 1, 2, 1, 2, 3);
        x = twoSheets(5, 1).go("copy(0, 2, 0, 0, 3) = 3");
        holds(x, 0, 3, 4, 5, 4, 5);
    }

    private static void copiesToTheLastPlace() {
        d.says("(From a SHEET, its place, to a SHEET, its place.)");
        Run x = twoSheets(4, 6).go("copy(0, 3, 1, 5, 1) = 1");
        holds(x, 1, 21, 22, 23, 24, 25, 4);
        x.go("copy(0, 0, 1, 0, 1) = 1");
        holds(x, 1, 1, 22, 23, 24, 25, 4);
        x.go("copy(1, 4, 0, 2, 2) = 2");
        holds(x, 0, 1, 2, 25, 4);
        x.go("copy(1, 0, 0, 0, 4) = 4");
        holds(x, 0, 1, 22, 23, 24);
        holds(x, 1, 1, 22, 23, 24, 25, 4);
    }

    private static void copiesThatAreRefused() {
        d.says("BAD; NOTHING; INDEX.");
        Run x = twoSheets(4, 6);
        x.go("copy(0, 4, 1, 0, 1) = INDEX", "copy(0, 3, 1, 0, 2) = INDEX", "copy(0, 0, 1, 6, 1) = INDEX",
                "copy(0, 0, 1, 5, 2) = INDEX", "copy(0, 0, 1, 0, 5) = INDEX", "copy(1, 0, 0, 0, 5) = INDEX",
                "copy(0, -1, 1, 0, 1) = INDEX", "copy(0, 0, 1, -1, 1) = INDEX", "copy(0, 0, 1, 0, -1) = INDEX",
                "copy(1, 2, 1, 3, 4) = INDEX", "copy(1, 3, 1, 2, 4) = INDEX", "copy(2, 0, 1, 0, 1) = BAD",
                "copy(0, 0, 2, 0, 1) = BAD", "copy(-1, 0, 1, 0, 1) = BAD", "copy(0, 0, -1, 0, 1) = BAD");
        x.go("copy(0, 1, 1, 1, " + Integer.MAX_VALUE + ") = INDEX", "copy(0, 0, 1, 0, " + Integer.MIN_VALUE + ") = INDEX");
        x.go("copy(0, " + Integer.MAX_VALUE + ", 1, 0, 1) = INDEX", "copy(0, 0, 1, " + Integer.MAX_VALUE + ", 1) = INDEX");
        holds(x, 0, 1, 2, 3, 4);
        holds(x, 1, 21, 22, 23, 24, 25, 26);
    }

    private static void takesAsManyAsBothHave() {
        d.says("FOLDS become what a SHEET has, as many CASES as both have: how many.");
        for (int cases : new int[] {0, 1, 3, 12}) {
            for (int places : new int[] {0, 1, 2, 3, 4, 12}) {
                Run x = twoSheets(places, 0);
                for (int c = 0; c < cases; c++) {
                    x.go("newCase(" + c % 3 + ", 1, 77) = " + c);
                }
                x.go("take(0) = " + Math.min(cases, places), "take(1) = 0");
                for (int c = 0; c < cases; c++) {
                    x.go("told(" + c + ", 3) = " + (c < places ? c + 1 : 77));
                }
            }
        }
    }

    private static void takesZeroToHundred() {
        d.says("NO: one of these is not 0 .. 100.");
        for (int place = 0; place < 3; place++) {
            Run x = twoSheets(4, 0);
            for (int c = 0; c < 3; c++) {
                x.go("newCase(0, 1, 50) = " + c);
            }
            for (int v : new int[] {-1, 101, 127, -128}) {
                x.go("mark(0, " + place + ", " + v + ")", "take(0) = NO");
                x.go("told(0, 3) = 50", "told(1, 3) = 50", "told(2, 3) = 50");
            }
            x.go("mark(0, " + place + ", 100)", "take(0) = 3", "told(" + place + ", 3) = 100");
            x.go("mark(0, " + place + ", 0)", "take(0) = 3", "told(" + place + ", 3) = 0");
        }
        d.says("one of these: a place without a CASE is none of these");
        twoSheets(3, 0).go("newCase(0, 1, 50) = 0", "newCase(0, 1, 50) = 1", "mark(0, 2, 101) = 3", "take(0) = 2",
                "mark(0, 2, -1) = 101", "take(0) = 2", "newCase(0, 1, 50) = 2", "take(0) = NO", "told(2, 3) = 50",
                "mark(0, 2, 100) = -1", "take(0) = 3", "told(2, 3) = 100");
    }

    private static void takeThatIsRefused() {
        d.says("BAD; NOTHING; NO");
        run().go("newCase(0, 1, 50) = 0", "take(0) = NOTHING", "take(1) = NOTHING", "take(2) = BAD", "take(-1) = BAD",
                "sheet(1, 12) = 12", "take(0) = NOTHING", "mark(1, 0, 101) = 0", "take(1) = NO", "told(0, 3) = 50",
                "mark(1, 0, 100) = 101", "take(1) = 1", "told(0, 3) = 100");
    }
}
