/** Houses in which most numbers differ from those at first, so that a change would be seen. */
final class Houses {
    private Houses() {
    }

    static Run empty(Due d) {
        return new Run(d);
    }

    /** Seven cases in lists of 4, 2 and 1; six witnesses, the last called for no case; five notices; two sheets. */
    static Run ordinary(Due d) {
        Run x = new Run(d);
        x.go("newCase(0, 4, 25) = 0", "newCase(0, 2, 0) = 1", "newCase(1, 3, 100) = 2", "newCase(0, 8, 50) = 3",
                "newCase(2, 1, 7) = 4", "newCase(1, 5, 60) = 5", "newCase(0, 6, 99) = 6");
        x.go("witness(0, 3) = 0", "witness(1, 0) = 1", "witness(2, 12) = 2", "witness(3, 5) = 3", "witness(4, 1) = 4",
                "witness(0, 2) = 5");
        x.go("needs(0, 1) = 0", "needs(1, 7) = 0", "needs(3, 26) = 0", "needs(4, 16) = 0", "needs(5, 3) = 0",
                "needs(6, 4) = 0");
        x.go("call(0, 0, 6) = 3", "call(1, 1, 9) = 0", "call(3, 3, 30) = 5", "call(0, 5, 4) = 3",
                "call(2, 1, 33) = 12");
        x.go("fate(0, 7) = -1", "fate(2, 0) = -1", "fate(3, 1) = -1");
        x.go("rule(0, 3) = 1", "rule(1, 9) = 4", "rule(2, 11) = 0", "rule(3, 13) = 0", "rule(4, 17) = 0");
        x.go("apart(0, 1, 1) = 0", "apart(2, 3, 1) = 0", "apart(0, 5, 1) = 0");
        x.go("move(1, 0) = 3", "read(1) = 1", "move(5, 1) = 1", "count(2) = 5");
        x.go("sheet(0, 5) = 5", "mark(0, 0, 10) = 0", "mark(0, 2, 30) = 0", "mark(0, 4, 100) = 0");
        // a number that is no fold stands at the place of the last case
        x.go("sheet(1, 9) = 9", "mark(1, 0, 1) = 0", "mark(1, 6, -1) = 0", "mark(1, 8, 77) = 0");
        return x;
    }

    /** Twelve cases in lists of 6, 6 and 0; ten witnesses; sixty notices; two sheets of twelve places. */
    static Run full(Due d) {
        Run x = new Run(d);
        for (int c = 0; c < 12; c++) {
            x.go("newCase(" + c / 6 + ", " + (1 + c % 8) + ", " + (100 - c) + ") = " + c);
        }
        for (int w = 0; w < 10; w++) {
            x.go("witness(" + w % 5 + ", " + (w + 3) + ") = " + w);
        }
        for (int c = 0; c < 12; c++) {
            x.go("needs(" + c + ", " + (31 << c % 2 * 5) + ") = 0");
            x.go("move(" + c + ", " + c / 6 + ") = 5");
        }
        x.go("count(2) = 60", "read(3) = 6", "fate(7, 20) = -1", "fate(8, 0) = -1", "call(2, 4, 48) = 5",
                "call(9, 1, 40) = 12");
        x.go("sheet(0, 12) = 12", "sheet(1, 12) = 12", "mark(0, 11, 100) = 0", "mark(1, 0, 5) = 0");
        return x;
    }

    /** Six cases in list 0 and one in list 2: a full list in a house that has room. */
    static Run sixInOneList(Due d) {
        Run x = new Run(d);
        for (int c = 0; c < 7; c++) {
            x.go("newCase(" + c / 6 * 2 + ", 2, 10) = " + c);
        }
        return x.go("witness(0, 4) = 0", "needs(6, 1) = 0", "needs(0, 1) = 0");
    }

    /** Four witnesses who are all apart and wait for one case; a fifth who is called for none. */
    static Run withoutRooms(Due d) {
        Run x = new Run(d);
        x.go("newCase(0, 8, 0) = 0");
        for (int w = 0; w < 5; w++) {
            x.go("witness(0, " + w + ") = " + w);
        }
        x.go("needs(0, 15) = 0");
        return x.go("apart(0, 1, 1) = 0", "apart(0, 2, 1) = 0", "apart(0, 3, 1) = 0", "apart(1, 2, 1) = 0",
                "apart(1, 3, 1) = 0", "apart(2, 3, 1) = 0");
    }

    /** Sheet 0 has three places, sheet 1 is missing. */
    static Run oneSheet(Due d) {
        return new Run(d).go("newCase(0, 1, 50) = 0", "sheet(0, 3) = 3", "mark(0, 0, 9) = 0", "mark(0, 2, 8) = 0");
    }
}
