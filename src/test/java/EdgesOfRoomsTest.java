/** The boundary cases that ROOMS in section 4 of the Terms and promises 22 and 23 name. */
public final class EdgesOfRoomsTest {
    private static final Due d = new Due();

    public static void main(String[] args) {
        pairsAreOfTwo();
        allPairs();
        calledForNoCase();
        threeRooms();
        leastRoom();
        asFarBackAsMustBeGone();
        afraidOnes();
        firstQuarterCounts();
        lastQuarterCounts();
        firstAndLastOfSeveralCases();
        goneAheadOfTheFirst();
        neitherBeganNorGone();
        noRoomsForAnybody();
        d.end("EdgesOfRoomsTest");
    }

    private static Run run() {
        return new Run(d);
    }

    /** One case that needs so many witnesses of a kind, all called for 0. */
    private static Run waiting(int many, int kind) {
        Run x = run().go("newCase(0, 8, 0) = 0");
        for (int w = 0; w < many; w++) {
            x.go("witness(" + kind + ", 0) = " + w);
        }
        return x.go("needs(0, " + ((1 << many) - 1) + ") = 0");
    }

    private static void rooms(Run x, String... due) {
        for (int w = 0; w < due.length; w++) {
            x.go("room(" + w + ") = " + due[w]);
        }
    }

    private static void pairsAreOfTwo() {
        d.says("Two WITNESSES are APART (1) or not (0): what it was. BAD: no such ones, the same.");
        run().go("apart(0, 1, 1) = BAD", "witness(0, 0) = 0", "apart(0, 0, 1) = BAD", "apart(0, 1, 1) = BAD",
                "apart(1, 0, 1) = BAD", "witness(0, 0) = 1", "apart(0, 1, 0) = 0", "count(4) = 0", "apart(0, 1, 1) = 0",
                "apart(1, 0, 1) = 1", "count(4) = 1", "apart(0, 1, 2) = BAD", "apart(0, 1, -1) = BAD", "count(4) = 1",
                "apart(0, -1, 0) = BAD", "apart(-1, 0, 0) = BAD", "apart(1, 1, 0) = BAD", "apart(1, 0, 0) = 1",
                "apart(0, 1, 0) = 0", "count(4) = 0");
    }

    private static void allPairs() {
        d.says("4 pairs that are APART");
        Run x = run();
        for (int w = 0; w < 10; w++) {
            x.go("witness(0, 0) = " + w);
        }
        int pairs = 0;
        for (int a = 0; a < 10; a++) {
            for (int b = a + 1; b < 10; b++) {
                pairs++;
                x.go("apart(" + b + ", " + a + ", 1) = 0", "apart(" + a + ", " + b + ", 1) = 1", "count(4) = " + pairs);
            }
        }
        x.go("count(4) = 45", "apart(9, 10, 1) = BAD", "apart(10, 9, 1) = BAD", "room(0) = NONE", "apart(0, 9, 0) = 1",
                "count(4) = 44");
    }

    private static void calledForNoCase() {
        d.says("NONE: they are CALLED for no CASE.");
        run().go("witness(4, 0) = 0", "witness(0, 0) = 1", "room(0) = NONE", "newCase(0, 1, 0) = 0", "room(0) = NONE",
                "room(1) = NONE", "apart(0, 1, 1) = 0", "needs(0, 2) = 0", "room(0) = NONE", "room(1) = 0",
                "needs(0, 3) = 2", "room(0) = 2", "room(1) = 0", "needs(0, 0) = 3", "room(0) = NONE", "room(1) = NONE",
                "room(2) = BAD", "room(-1) = BAD");
    }

    private static void threeRooms() {
        d.says("ROOMS 0 .. 2");
        Run x = waiting(4, 0);
        rooms(x, "0", "0", "0", "0");
        x.go("apart(0, 1, 1) = 0", "apart(0, 2, 1) = 0", "apart(1, 2, 1) = 0");
        rooms(x, "0", "1", "2", "0");
        x.go("apart(3, 0, 1) = 0", "apart(3, 1, 1) = 0");
        rooms(x, "0", "1", "2", "2");
        d.says("NO: there are no ROOMS that will do");
        x.go("apart(3, 2, 1) = 0");
        rooms(x, "NO", "NO", "NO", "NO");
        x.go("apart(1, 3, 0) = 1");
        rooms(x, "0", "1", "2", "1");
    }

    private static void leastRoom() {
        d.says("by WITNESSES, rising, the least ROOM that will do");
        Run x = waiting(10, 0).go("apart(0, 9, 1) = 0", "apart(3, 4, 1) = 0", "apart(4, 9, 1) = 0");
        rooms(x, "0", "0", "0", "0", "1", "0", "0", "0", "0", "2");
        x.go("apart(3, 4, 0) = 1");
        rooms(x, "0", "0", "0", "0", "0", "0", "0", "0", "0", "1");
    }

    private static void asFarBackAsMustBeGone() {
        d.says("as far back as must be gone (the first row of ROOMS that is right)");
        // 9 is afraid, so in 2; 8 is not with 9 nor 0, so in 1; 0 stays and 7 must give way to 8
        Run x = waiting(9, 0).go("witness(4, 0) = 9", "needs(0, 1023) = 511", "apart(8, 9, 1) = 0", "apart(0, 8, 1) = 0",
                "apart(0, 7, 1) = 0", "apart(7, 8, 1) = 0");
        rooms(x, "0", "0", "0", "0", "0", "0", "0", "2", "1", "2");
        d.says("as far back as to the first");
        x = waiting(3, 0).go("witness(4, 0) = 3", "needs(0, 15) = 7", "apart(0, 1, 1) = 0", "apart(1, 2, 1) = 0",
                "apart(1, 3, 1) = 0", "apart(2, 3, 1) = 0", "apart(0, 2, 1) = 0");
        rooms(x, "2", "0", "1", "2");
        x.go("apart(0, 2, 0) = 1");
        rooms(x, "0", "1", "0", "2");
    }

    private static void afraidOnes() {
        d.says("AFRAID ones may be in ROOM 2 alone");
        Run x = waiting(2, 4);
        rooms(x, "2", "2");
        x.go("apart(0, 1, 1) = 0");
        rooms(x, "NO", "NO");
        d.says("a CHILD is in the least ROOM, and may be in ROOM 2 with an AFRAID one");
        x = waiting(3, 3).go("witness(4, 0) = 3", "needs(0, 15) = 7");
        rooms(x, "0", "0", "0", "2");
        x.go("apart(0, 1, 1) = 0", "apart(0, 2, 1) = 0", "apart(1, 2, 1) = 0");
        rooms(x, "0", "1", "2", "2");
        x.go("apart(3, 0, 1) = 0", "apart(3, 1, 1) = 0");
        rooms(x, "0", "1", "2", "2");
        x.go("apart(3, 2, 1) = 0");
        rooms(x, "NO", "NO", "NO", "NO");
    }

    /** Case 0 is heard at 0, case 1 behind it; witness 0 waits for case 0, witness 1 for case 1; they are apart. */
    private static Run twoApart(int length) {
        return run().go("newCase(0, " + length + ", 0) = 0", "newCase(0, 1, 0) = 1", "witness(0, 0) = 0",
                "witness(0, 0) = 1", "needs(0, 1) = 0", "needs(1, 2) = 0", "apart(0, 1, 1) = 0");
    }

    private static void firstQuarterCounts() {
        d.says("from the first QUARTER for which they are CALLED to the last at which .. began .., both too");
        Run x = twoApart(8);
        for (int began = 0; began <= 8; began += 4) {
            x.go("call(0, 0, " + began + ")", "begins(0, 0) = " + began);
            for (int called = began - 1; called <= began + 1; called++) {
                if (called >= 0) {
                    x.go("call(1, 1, " + called + ")", "room(1) = " + (called <= began ? 1 : 0), "room(0) = 0");
                }
            }
        }
    }

    private static void lastQuarterCounts() {
        d.says("to the last at which a CASE that NEEDS them began or was gone, both too");
        Run x = twoApart(1).go("newCase(1, 1, 0) = 2", "witness(0, 0) = 2", "needs(2, 5) = 0");
        // witness 0 waits for case 2, too, until witness 2 comes
        for (int last = 1; last <= 9; last += 4) {
            x.go("call(2, 2, " + last + ")", "begins(2, 0) = " + last);
            x.go("call(1, 1, " + last + ")", "room(1) = 1", "call(1, 1, " + (last + 1) + ")", "room(1) = 0");
        }
        d.says("or was gone");
        x.go("fate(2, 0) = -1", "call(1, 1, 0)", "room(1) = 1", "call(1, 1, 1) = 0", "room(1) = 0");
    }

    private static void firstAndLastOfSeveralCases() {
        d.says("from the first QUARTER for which they are CALLED (for some CASE) to the last");
        Run x = run().go("newCase(0, 5, 0) = 0", "newCase(0, 4, 0) = 1", "newCase(0, 1, 0) = 2", "newCase(1, 1, 0) = 3",
                "witness(0, 0) = 0", "witness(0, 0) = 1", "apart(0, 1, 1) = 0", "needs(1, 1) = 0", "needs(2, 1) = 0",
                "needs(3, 2) = 0");
        d.says("witness 0 is there from 4 to 9, called for the earlier case");
        x.go("call(0, 1, 4) = 0", "call(0, 2, 8) = 0", "begins(1, 0) = 5", "begins(2, 0) = 9");
        roomOfOneAt(x, 4, 9);
        d.says("from 3 to 9, called first for the later case");
        x.go("call(0, 2, 3) = 8");
        roomOfOneAt(x, 3, 9);
        d.says("from 3 to 13: the later one takes longer to begin");
        x.go("fate(1, 8) = -1");
        roomOfOneAt(x, 3, 13);
        d.says("from 3 to 5: the later one needs them no more, the other begins at 5");
        x.go("needs(2, 0) = 1", "call(0, 1, 3) = 4");
        roomOfOneAt(x, 3, 5);
    }

    /** Witness 1, apart from witness 0 in room 0, begins where they are called; so they are there at that alone. */
    private static void roomOfOneAt(Run x, int first, int last) {
        for (int quarter : new int[] {first - 1, first, last, last + 1}) {
            boolean meet = quarter >= first && quarter <= last;
            x.go("call(1, 3, " + quarter + ")", "begins(3, 0) = " + quarter);
            x.go("room(0) = 0", "room(1) = " + (meet ? 1 : 0));
        }
    }

    private static void goneAheadOfTheFirst() {
        d.says("(.. that first QUARTER, if the last is ahead of it)");
        Run x = run().go("newCase(0, 1, 0) = 0", "newCase(1, 1, 0) = 1", "witness(0, 0) = 0", "witness(0, 0) = 1",
                "apart(0, 1, 1) = 0", "needs(0, 1) = 0", "needs(1, 2) = 0", "fate(0, 0) = -1", "call(0, 0, 20) = 0");
        roomOfOneAtCaseOne(x, 20, 20);
        x.go("call(0, 0, 48) = 20", "call(1, 1, 48)", "room(1) = 1", "call(1, 1, 47) = 48", "room(1) = 0");
        d.says("both are gone ahead of their first QUARTERS");
        x.go("fate(1, 0) = -1", "call(0, 0, 30) = 48");
        roomOfOneAtCaseOne(x, 30, 30);
    }

    private static void roomOfOneAtCaseOne(Run x, int first, int last) {
        for (int quarter = first - 1; quarter <= last + 1; quarter++) {
            boolean meet = quarter >= first && quarter <= last;
            x.go("call(1, 1, " + quarter + ")", "room(1) = " + (meet ? 1 : 0), "room(0) = 0");
        }
    }

    private static void neitherBeganNorGone() {
        d.says("(200, if one did neither");
        Run x = run().go("witness(0, 0) = 0", "witness(0, 0) = 1", "witness(0, 0) = 2", "apart(1, 2, 1) = 0");
        for (int c = 0; c < 12; c++) {
            x.go("newCase(" + (c == 11 ? 2 : c / 6) + ", 8, 0) = " + c, "fate(" + c + ", 20) = -1");
            x.go("needs(" + c + ", 1) = 0");
        }
        x.go("needs(11, 3) = 1", "begins(11, 0) = NONE", "needs(0, 5) = 1");
        for (int quarter : new int[] {0, 1, 48}) {
            x.go("call(2, 0, " + quarter + ")", "room(1) = 0", "room(2) = 1", "room(0) = 0");
        }
        d.says("but it began at 0, if it needs the one alone");
        x.go("needs(11, 2) = 3", "begins(11, 0) = 0", "call(2, 0, 1) = 48", "room(2) = 0", "call(2, 0, 0) = 1",
                "room(2) = 1");
        d.says("one of two cases did neither");
        x.go("needs(11, 1) = 2", "needs(10, 3) = 1", "begins(10, 0) = NONE", "needs(1, 3) = 1", "call(2, 0, 48) = 0",
                "room(1) = 0", "room(2) = 1", "call(1, 10, 48) = 0", "room(2) = 1");
    }

    private static void noRoomsForAnybody() {
        d.says("BAD; NO: there are no ROOMS that will do; NONE: they are CALLED for no CASE.");
        Houses.withoutRooms(d).go("room(0) = NO", "room(3) = NO", "room(4) = NO", "room(5) = BAD", "room(-1) = BAD",
                "needs(0, 7) = 15", "room(0) = 0", "room(1) = 1", "room(2) = 2", "room(3) = NONE", "room(4) = NONE",
                "needs(0, 15) = 7", "room(0) = NO", "call(3, 0, 48) = 3", "room(0) = NO", "needs(0, 0) = 15",
                "room(0) = NONE");
    }
}
