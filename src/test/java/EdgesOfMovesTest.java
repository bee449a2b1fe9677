/** The boundary cases that MOVED and NOTICES in section 5 of the Terms and promises 24 to 26 and 31 name. */
public final class EdgesOfMovesTest {
    private static final Due d = new Due();

    public static void main(String[] args) {
        toTheEnd();
        toItsOwnEnd();
        sixOthers();
        refusedMoves();
        nobodyGetsANotice();
        oneForEachWitnessAndCase();
        untilItIsRead();
        stillNeededOrNot();
        numberedAsTheyCome();
        sixtyAtMost();
        theLastOfSixty();
        readingAtSixty();
        counts();
        d.end("EdgesOfMovesTest");
    }

    private static Run run() {
        return new Run(d);
    }

    private static void list(Run x, int court, int... due) {
        for (int place = 0; place < due.length; place++) {
            x.go("inList(" + court + ", " + place + ") = " + due[place]);
            x.go("told(" + due[place] + ", 0) = " + court, "told(" + due[place] + ", 1) = " + place);
        }
        x.go("inList(" + court + ", " + due.length + ") = NONE");
    }

    private static void toTheEnd() {
        d.says("A CASE is MOVED to the end of another LIST: its place there");
        for (int moved = 0; moved < 3; moved++) {
            Run x = run().go("newCase(0, 1, 0) = 0", "newCase(0, 1, 0) = 1", "newCase(0, 1, 0) = 2",
                    "newCase(1, 1, 0) = 3", "move(" + moved + ", 1) = 1", "move(3, 2) = 0");
            list(x, 1, moved);
            list(x, 2, 3);
            list(x, 0, moved == 0 ? 1 : 0, moved == 2 ? 1 : 2);
            x.go("move(" + moved + ", 0) = 2", "inList(1, 0) = NONE", "inList(0, 2) = " + moved);
        }
    }

    private static void toItsOwnEnd() {
        d.says("(or its own)");
        Run x = run();
        for (int c = 0; c < 6; c++) {
            x.go("newCase(2, 1, 0) = " + c);
            x.go("move(" + c + ", 2) = " + c);
        }
        list(x, 2, 0, 1, 2, 3, 4, 5);
        x.go("move(0, 2) = 5");
        list(x, 2, 1, 2, 3, 4, 5, 0);
        x.go("move(4, 2) = 5", "move(4, 2) = 5");
        list(x, 2, 1, 2, 3, 5, 0, 4);
    }

    private static void sixOthers() {
        d.says("FULL: that LIST has six others.");
        Run x = run();
        for (int c = 0; c < 11; c++) {
            x.go("newCase(" + c / 6 + ", 1, 0) = " + c);
        }
        x.go("move(10, 0) = FULL", "move(5, 1) = 5", "move(10, 0) = 5", "move(6, 0) = FULL", "move(5, 1) = 4");
        x.go("newCase(1, 1, 0) = 11", "move(0, 1) = FULL", "move(11, 1) = 5", "move(6, 1) = 5", "move(0, 0) = 5");
        list(x, 0, 1, 2, 3, 4, 10, 0);
        list(x, 1, 7, 8, 9, 5, 11, 6);
        x.go("move(6, 2) = 0", "move(0, 1) = 5", "move(6, 1) = FULL", "move(6, 0) = 5");
    }

    private static void refusedMoves() {
        d.says("BAD; FULL");
        Run x = run().go("move(0, 0) = BAD");
        for (int c = 0; c < 7; c++) {
            x.go("newCase(" + c / 6 + ", 1, 0) = " + c);
        }
        x.go("witness(0, 0) = 0", "needs(6, 1) = 0", "move(6, 3) = BAD", "move(6, -1) = BAD", "move(7, 0) = BAD",
                "move(-1, 0) = BAD", "move(6, 0) = FULL", "count(2) = 0");
        list(x, 0, 0, 1, 2, 3, 4, 5);
        list(x, 1, 6);
    }

    private static void nobodyGetsANotice() {
        d.says("each WITNESS whom it NEEDS gets a NOTICE");
        run().go("newCase(0, 1, 0) = 0", "newCase(0, 1, 0) = 1", "witness(0, 0) = 0", "needs(1, 1) = 0",
                "move(0, 1) = 0", "count(2) = 0", "notice(0, 0) = BAD", "read(0) = 0", "move(1, 1) = 1", "count(2) = 1",
                "notice(0, 0) = 0", "notice(0, 1) = 1", "notice(0, 2) = 0", "notice(1, 0) = BAD", "notice(-1, 0) = BAD",
                "notice(0, 3) = BAD", "notice(0, -1) = BAD");
    }

    private static void oneForEachWitnessAndCase() {
        d.says("but just one for each CASE until it is read");
        Run x = run().go("newCase(0, 1, 0) = 0", "newCase(0, 1, 0) = 1", "witness(0, 0) = 0", "witness(0, 0) = 1",
                "needs(0, 1) = 0", "needs(1, 3) = 0");
        x.go("move(0, 0) = 1", "count(2) = 1", "move(0, 0) = 1", "move(0, 1) = 0", "move(0, 2) = 0", "count(2) = 1");
        x.go("move(1, 2) = 1", "count(2) = 3", "move(1, 1) = 0", "move(0, 1) = 1", "count(2) = 3", "count(3) = 3");
        x.go("needs(0, 3) = 1", "move(0, 0) = 0", "count(2) = 4", "notice(3, 0) = 1", "notice(3, 1) = 0");
    }

    private static void untilItIsRead() {
        d.says("A WITNESS reads all their NOTICES: how many were not read yet.");
        Run x = run().go("newCase(0, 1, 0) = 0", "newCase(0, 1, 0) = 1", "witness(0, 0) = 0", "witness(0, 0) = 1",
                "needs(0, 3) = 0", "needs(1, 1) = 0", "move(0, 1) = 0", "move(1, 1) = 1", "count(3) = 3");
        x.go("read(2) = BAD", "read(-1) = BAD", "count(3) = 3", "read(0) = 2", "read(0) = 0", "count(3) = 1");
        x.go("notice(0, 2) = 1", "notice(1, 2) = 0", "notice(2, 2) = 1", "count(2) = 3");
        x.go("move(0, 2) = 0", "count(2) = 4", "notice(3, 0) = 0", "notice(3, 2) = 0", "notice(0, 2) = 1");
        x.go("move(0, 2) = 0", "count(2) = 4", "read(1) = 1", "read(0) = 1", "count(3) = 0", "move(0, 2) = 0");
        x.go("count(2) = 6", "count(3) = 2", "notice(4, 0) = 0", "notice(5, 0) = 1");
    }

    private static void stillNeededOrNot() {
        d.says("one who is NEEDED no more, and again, still has just one that is not read");
        run().go("newCase(0, 1, 0) = 0", "witness(0, 0) = 0", "needs(0, 1) = 0", "move(0, 0) = 0", "count(2) = 1",
                "needs(0, 0) = 1", "move(0, 0) = 0", "count(2) = 1", "needs(0, 1) = 0", "move(0, 0) = 0",
                "count(2) = 1", "needs(0, 0) = 1", "read(0) = 1", "move(0, 0) = 0", "count(2) = 1", "needs(0, 1) = 0",
                "move(0, 0) = 0", "count(2) = 2");
    }

    private static void numberedAsTheyCome() {
        d.says("NOTICES are numbered from 0 as they come");
        Run x = run();
        for (int w = 0; w < 10; w++) {
            x.go("witness(0, 0) = " + w);
        }
        x.go("newCase(0, 1, 0) = 0", "newCase(0, 1, 0) = 1", "needs(0, 1023) = 0", "needs(1, 513) = 0");
        x.go("move(1, 1) = 0", "move(0, 1) = 1", "count(2) = 12", "notice(0, 0) = 0", "notice(1, 0) = 9");
        x.go("notice(0, 1) = 1", "notice(1, 1) = 1", "notice(12, 0) = BAD");
        for (int w = 0; w < 10; w++) {
            x.go("notice(" + (w + 2) + ", 0) = " + w, "notice(" + (w + 2) + ", 1) = 0");
        }
    }

    /** Six cases that need ten witnesses each, and one more: each move makes ten notices, until there are so many. */
    private static Run withNotices(int many) {
        Run x = run();
        for (int w = 0; w < 10; w++) {
            x.go("witness(0, 0) = " + w);
        }
        for (int c = 0; c < 7; c++) {
            x.go("newCase(" + c / 6 + ", 1, 0) = " + c);
        }
        for (int c = 0; c < 6; c++) {
            int here = Math.min(10, Math.max(0, many - 10 * c));
            x.go("needs(" + c + ", " + ((1 << here) - 1) + ") = 0", "move(" + c + ", 0) = 5");
        }
        return x.go("count(2) = " + many);
    }

    private static void sixtyAtMost() {
        d.says("60 at most (moved all the same then, without)");
        Run x = withNotices(60).go("notice(59, 0) = 9", "notice(59, 1) = 5", "notice(60, 0) = BAD", "needs(6, 7) = 0");
        x.go("told(6, 0) = 1", "move(6, 2) = 0", "told(6, 0) = 2", "inList(2, 0) = 6", "inList(1, 0) = NONE");
        x.go("count(2) = 60", "count(3) = 60", "notice(60, 0) = BAD", "read(0) = 6", "count(3) = 54");
        withNotices(60).go("move(0, 2) = 0", "count(2) = 60", "told(0, 0) = 2");
    }

    private static void theLastOfSixty() {
        d.says("60 at most: of three who are told of one move, as many as there is room for");
        for (int room = 0; room <= 4; room++) {
            Run x = withNotices(60 - room).go("needs(6, 896) = 0", "move(6, 2) = 0");
            int now = 60 - room + Math.min(3, room);
            x.go("count(2) = " + now, "notice(" + now + ", 0) = BAD");
            for (int i = 0; i < Math.min(3, room); i++) {
                x.go("notice(" + (60 - room + i) + ", 0) = " + (7 + i), "notice(" + (60 - room + i) + ", 1) = 6");
            }
            x.go("read(7) = " + (5 + (room >= 1 ? 1 : 0) + (room <= 2 ? 1 : 0)));
        }
    }

    private static void readingAtSixty() {
        d.says("60 at most, read or not");
        Run x = withNotices(60);
        for (int w = 0; w < 10; w++) {
            x.go("read(" + w + ") = 6");
        }
        x.go("count(3) = 0", "move(0, 0) = 5", "count(2) = 60", "count(3) = 0", "read(0) = 0");
    }

    private static void counts() {
        d.says("How many: 0 CASES, 1 WITNESSES, 2 NOTICES, 3 of these not read, 4 pairs, 5 FATES, 6 SHEETS. BAD.");
        Run x = run().go("count(-1) = BAD", "count(7) = BAD");
        x.go("newCase(0, 1, 0) = 0", "newCase(0, 1, 0) = 1", "newCase(0, 1, 0) = 2", "count(0) = 3");
        x.go("witness(0, 0) = 0", "witness(0, 0) = 1", "count(1) = 2", "needs(0, 3) = 0", "move(0, 1) = 0");
        x.go("count(2) = 2", "count(3) = 2", "read(0) = 1", "count(2) = 2", "count(3) = 1");
        x.go("apart(0, 1, 1) = 0", "count(4) = 1", "apart(1, 0, 1) = 1", "count(4) = 1", "apart(0, 1, 0) = 1",
                "count(4) = 0");
        x.go("fate(0, 0) = -1", "count(5) = 1", "fate(1, 20) = -1", "count(5) = 2", "fate(1, 1) = 20", "count(5) = 2",
                "fate(2, -1) = -1", "count(5) = 2", "fate(0, -1) = 0", "count(5) = 1", "fate(0, 21) = BAD",
                "count(5) = 1");
        x.go("sheet(0, -1) = SIZE", "sheet(0, 13) = BAD", "count(6) = 0", "sheet(0, 0) = 0", "count(6) = 1",
                "sheet(0, 12) = 12", "count(6) = 1", "sheet(1, 1) = 1", "count(6) = 2", "sheet(1, 0) = 0",
                "count(6) = 2");
        for (int what = 0; what <= 6; what++) {
            x.go("count(" + what + ") = " + new int[] {3, 2, 2, 1, 0, 1, 2}[what]);
        }
    }
}
