/** The boundary cases that section 3 of the Terms, PAY in section 4 and promises 16 to 21 name. */
public final class EdgesOfTheDayTest {
    private static final Due d = new Due();

    public static void main(String[] args) {
        fates();
        goesOnBelowItsEnd();
        calledForThisQuarter();
        inACaseThatGoesOn();
        lowerCourtsFirst();
        foldedOnesGo();
        nothingBehindIsLookedAt();
        endsWhenAllHaveBegun();
        lastQuarterIs199();
        goneAt199();
        idleToTheEnd();
        throughIsNotIdle();
        causes();
        waitedFromAndTo();
        waitedLessOtherCases();
        waitedToTheEnd();
        waitsOfAll();
        beginsWhat();
        hoursAreCut();
        payOfNothing();
        payByKinds();
        feesOfCasesThatBegan();
        pricesAtTheirEnds();
        d.end("EdgesOfTheDayTest");
    }

    private static Run run() {
        return new Run(d);
    }

    private static void fates() {
        d.says("0 FOLDED, 1 .. 20 how long it takes, -1 as if nothing was told: what it was (-1: nothing). BAD.");
        run().go("fate(0, 0) = BAD", "newCase(0, 8, 0) = 0", "newCase(0, 3, 0) = 1", "fate(0, -1) = -1",
                "begins(0, 1) = 8", "fate(0, -2) = BAD", "fate(0, 21) = BAD", "begins(0, 1) = 8", "fate(0, 1) = -1",
                "begins(0, 1) = 1", "fate(0, 20) = 1", "begins(0, 1) = 20", "begins(1, 0) = 20", "begins(1, 1) = 23",
                "fate(0, 0) = 20", "begins(0, 1) = 0", "begins(1, 0) = 0", "fate(0, -1) = 0", "begins(0, 1) = 8",
                "fate(0, -1) = -1", "count(5) = 0", "fate(2, 0) = BAD", "fate(-1, 0) = BAD");
    }

    private static void goesOnBelowItsEnd() {
        d.says("(it began at b and takes l: as long as t is below b + l) goes on");
        Run x = run().go("newCase(0, 8, 0) = 0", "newCase(0, 8, 0) = 1", "begins(0, 0) = 0", "begins(1, 0) = 8");
        for (int l = 1; l <= 20; l++) {
            x.go("fate(0, " + l + ")", "begins(0, 1) = " + l, "begins(1, 0) = " + l, "begins(1, 1) = " + (l + 8));
        }
        x.go("idle(0, 0) = 0", "idle(0, 1) = 0");
    }

    private static void calledForThisQuarter() {
        d.says("if all whom it NEEDS are there (CALLED for t or ahead of it)");
        Run x = run().go("newCase(0, 1, 0) = 0", "witness(0, 0) = 0", "witness(0, 0) = 1", "needs(0, 3) = 0");
        for (int quarter : new int[] {0, 1, 2, 47, 48}) {
            x.go("call(0, 0, " + quarter + ")", "begins(0, 0) = " + quarter, "idle(0, 0) = " + quarter);
            x.go("idle(0, 1) = 0", "waited(0, 0) = 0", "waited(1, 0) = " + quarter);
        }
    }

    private static void inACaseThatGoesOn() {
        d.says("and none of them is at this t in a CASE that goes on (in any COURT), it begins at t");
        Run x = run().go("newCase(2, 8, 0) = 0", "newCase(0, 1, 0) = 1", "witness(0, 0) = 0", "needs(0, 1) = 0",
                "needs(1, 1) = 0", "call(0, 1, 1) = 0");
        for (int l = 1; l <= 20; l++) {
            x.go("fate(0, " + l + ")", "begins(0, 0) = 0", "begins(1, 0) = " + l, "idle(0, 0) = 1");
            x.go("idle(0, 1) = " + (l - 1), "idle(2, 0) = 0", "idle(2, 1) = 0");
        }
        d.says("one of two is enough to keep it waiting, and one whom it does not NEED is not");
        x.go("witness(0, 0) = 1", "needs(1, 3) = 1", "begins(1, 0) = 20", "needs(1, 2) = 3", "begins(1, 0) = 0");
    }

    private static void lowerCourtsFirst() {
        d.says("at each, by COURTS, rising");
        Run x = run().go("newCase(2, 4, 0) = 0", "newCase(1, 3, 0) = 1", "newCase(0, 2, 0) = 2", "witness(0, 0) = 0",
                "needs(0, 1) = 0", "needs(1, 1) = 0", "needs(2, 1) = 0");
        x.go("begins(2, 0) = 0", "begins(1, 0) = 2", "begins(0, 0) = 5", "idle(1, 1) = 2", "idle(2, 1) = 5");
        d.says("the court that gets them again at the quarter they are free is the lower one");
        x.go("newCase(0, 1, 0) = 3", "needs(3, 1) = 0", "begins(3, 0) = 2", "begins(1, 0) = 3", "begins(0, 0) = 6");
    }

    private static void foldedOnesGo() {
        d.says("if it is FOLDED it is gone (at t), and the next one is looked at");
        Run x = run().go("witness(0, 12) = 0");
        for (int c = 0; c < 6; c++) {
            x.go("newCase(1, 5, 0) = " + c, "needs(" + c + ", " + (c == 3 ? 0 : 1) + ") = 0", "fate(" + c + ", 0) = -1");
        }
        x.go("fate(3, -1) = 0");
        long[] gone = {0, 0, 0, 0, 5, 5};
        for (int c = 0; c < 6; c++) {
            x.go("begins(" + c + ", 0) = " + gone[c], "begins(" + c + ", 2) = " + (c == 3 ? 0 : 1));
            x.go("begins(" + c + ", 1) = " + (c == 3 ? 5 : gone[c]));
        }
        x.go("idle(1, 0) = 0", "idle(1, 1) = 0", "waits() = 0");
        d.says("all are FOLDED");
        x.go("fate(3, 0) = -1", "begins(5, 0) = 0", "idle(1, 0) = 0", "idle(1, 1) = 0", "waited(0, 5) = 0");
    }

    private static void nothingBehindIsLookedAt() {
        d.says("else the COURT is IDLE at t (nothing behind it in its LIST is looked at)");
        Run x = run().go("newCase(0, 2, 0) = 0", "newCase(0, 2, 0) = 1", "newCase(0, 2, 0) = 2", "witness(0, 6) = 0",
                "needs(0, 1) = 0", "fate(1, 0) = -1");
        x.go("begins(0, 0) = 6", "begins(1, 0) = 8", "begins(2, 0) = 8", "idle(0, 0) = 6", "idle(0, 1) = 0");
        d.says("it is not looked at either behind a FOLDED one");
        x.go("fate(0, 0) = -1", "needs(2, 1) = 0", "begins(1, 0) = 0", "begins(2, 0) = 6", "idle(0, 0) = 6");
    }

    private static void endsWhenAllHaveBegun() {
        d.says("It ends when all CASES have begun or are gone");
        run().go("newCase(0, 8, 0) = 0", "newCase(1, 1, 0) = 1", "witness(0, 5) = 0", "needs(1, 1) = 0",
                "begins(1, 0) = 5", "idle(0, 0) = 0", "idle(0, 1) = 0", "idle(1, 0) = 5", "idle(1, 1) = 0",
                "begins(0, 1) = 8", "begins(1, 1) = 6", "fate(1, 0) = -1", "idle(1, 0) = 0", "begins(1, 0) = 0");
    }

    /** One witness, whom all twelve cases need, twenty quarters each: lists of six, or of six, five and one. */
    private static Run longDay(boolean inThreeCourts) {
        Run x = run().go("witness(2, 0) = 0");
        for (int c = 0; c < 12; c++) {
            int court = inThreeCourts && c == 11 ? 2 : c / 6;
            x.go("newCase(" + court + ", 8, 0) = " + c, "needs(" + c + ", 1) = 0", "fate(" + c + ", 20) = -1");
        }
        return x;
    }

    private static void lastQuarterIs199() {
        d.says("or as t comes to 200 (199 is the last one)");
        Run x = longDay(false).go("begins(9, 0) = 180", "begins(9, 1) = 200");
        for (int what = 0; what <= 2; what++) {
            x.go("begins(10, " + what + ") = NONE", "begins(11, " + what + ") = NONE");
        }
        x.go("fate(9, 19) = 20", "begins(10, 0) = 199", "begins(10, 2) = 0", "begins(11, 0) = NONE");
        x.go("fate(0, 19) = 20", "begins(10, 0) = 198", "fate(10, 1) = 20", "begins(11, 0) = 199", "begins(10, 1) = 199");
        x.go("fate(10, 2) = 1", "begins(11, 0) = NONE", "begins(10, 1) = 200");
    }

    private static void goneAt199() {
        d.says("it is gone (at t) .. 199 is the last one");
        Run x = longDay(false).go("fate(10, 0) = 20", "fate(11, 0) = 20");
        for (int what = 0; what <= 2; what++) {
            x.go("begins(10, " + what + ") = NONE", "begins(11, " + what + ") = NONE");
        }
        x.go("fate(9, 19) = 20", "begins(10, 0) = 199", "begins(10, 1) = 199", "begins(10, 2) = 1");
        x.go("begins(11, 0) = 199", "begins(11, 2) = 1", "fate(11, 7) = 0", "begins(11, 0) = 199", "begins(11, 2) = 0");
    }

    private static void idleToTheEnd() {
        d.says("IDLE QUARTERS of a COURT as THE DAY goes");
        longDay(true).go("idle(0, 0) = 0", "idle(0, 1) = 0", "idle(1, 0) = 0", "idle(1, 1) = 120", "idle(2, 0) = 0",
                "idle(2, 1) = 200", "begins(11, 0) = NONE", "call(0, 11, 48) = 0", "idle(2, 0) = 48", "idle(2, 1) = 152",
                "fate(0, 0) = 20", "fate(10, 19) = 20", "begins(11, 0) = 199", "idle(2, 0) = 48", "idle(2, 1) = 151",
                "idle(2, 2) = BAD", "idle(2, -1) = BAD", "idle(3, 0) = BAD", "idle(-1, 0) = BAD");
    }

    private static void throughIsNotIdle() {
        d.says("A COURT whose LIST is through is not IDLE.");
        run().go("newCase(0, 1, 0) = 0", "newCase(1, 1, 0) = 1", "newCase(1, 1, 0) = 2", "witness(0, 12) = 0",
                "needs(2, 1) = 0", "call(0, 2, 48) = 12", "begins(2, 0) = 48", "idle(0, 0) = 0", "idle(0, 1) = 0",
                "idle(1, 0) = 47", "idle(1, 1) = 0", "idle(2, 0) = 0", "idle(2, 1) = 0");
    }

    private static void causes() {
        d.says("0 one whom it NEEDS is not there yet; 1 else (all are there, one is in another CASE)");
        Run x = run().go("newCase(0, 8, 0) = 0", "newCase(1, 1, 0) = 1", "witness(0, 0) = 0", "witness(0, 0) = 1",
                "needs(0, 1) = 0", "needs(1, 3) = 0");
        for (int quarter = 0; quarter <= 10; quarter++) {
            x.go("call(1, 1, " + quarter + ")", "idle(1, 0) = " + quarter, "idle(1, 1) = " + Math.max(0, 8 - quarter));
            x.go("begins(1, 0) = " + Math.max(8, quarter));
        }
        d.says("the same with the two the other way round");
        x.go("call(1, 1, 0) = 10", "needs(0, 2) = 1", "call(0, 1, 3) = 0", "idle(1, 0) = 3", "idle(1, 1) = 5");
    }

    private static void waitedFromAndTo() {
        d.says("from the QUARTER for which they are CALLED to that at which it began, or was gone (0, if that was ahead");
        Run x = run().go("newCase(0, 8, 0) = 0", "newCase(0, 1, 0) = 1", "witness(0, 0) = 0", "needs(1, 1) = 0");
        x.go("waited(0, 1) = 8", "call(0, 1, 7) = 0", "waited(0, 1) = 1", "call(0, 1, 8) = 7", "waited(0, 1) = 0");
        x.go("call(0, 1, 9) = 8", "begins(1, 0) = 9", "waited(0, 1) = 0");
        x.go("fate(1, 0) = -1", "begins(1, 0) = 8", "waited(0, 1) = 0", "call(0, 1, 48) = 9", "waited(0, 1) = 0");
        x.go("call(0, 1, 8) = 48", "waited(0, 1) = 0", "call(0, 1, 7) = 8", "waited(0, 1) = 1", "call(0, 1, 0) = 7");
        x.go("waited(0, 1) = 8", "waited(0, 0) = NO", "waited(1, 1) = BAD", "waited(0, 2) = BAD");
    }

    /** In court 1 the witness is in a case from 3 to 5; in court 0 one begins at 8. */
    private static void waitedLessOtherCases() {
        d.says("QUARTERS in which they are in another CASE count for nothing");
        Run x = run().go("newCase(0, 8, 0) = 0", "newCase(0, 1, 0) = 1", "newCase(1, 3, 0) = 2", "witness(0, 0) = 0",
                "needs(1, 1) = 0", "needs(2, 1) = 0", "call(0, 2, 3) = 0");
        long[] due = {5, 4, 3, 2, 2, 2, 2, 1, 0};
        for (int quarter = 0; quarter <= 8; quarter++) {
            x.go("call(0, 1, " + quarter + ")", "waited(0, 1) = " + due[quarter], "waited(0, 2) = 0");
        }
        d.says("in another one right until it begins, and until 9");
        x.go("call(0, 1, 0) = 8", "fate(2, 5) = -1", "waited(0, 1) = 3", "fate(2, 6) = 5", "begins(1, 0) = 9",
                "waited(0, 1) = 3", "call(0, 1, 8) = 0", "waited(0, 1) = 0");
        d.says("in two others; a FOLDED one is none; one that does not NEED them is none");
        x.go("call(0, 1, 0) = 8", "fate(2, 2) = 6", "newCase(2, 2, 0) = 3", "needs(3, 1) = 0", "call(0, 3, 6) = 0",
                "waited(0, 1) = 4", "fate(3, 0) = -1", "waited(0, 1) = 6", "needs(2, 0) = 1", "waited(0, 1) = 8");
    }

    private static void waitedToTheEnd() {
        d.says("(to 200, if it never began)");
        Run x = longDay(true).go("witness(0, 0) = 1", "needs(11, 3) = 1", "waited(1, 11) = 200", "call(1, 11, 48) = 0",
                "waited(1, 11) = 152", "waited(0, 11) = 0");
        d.says("never began: 0 .. 9 are waited, from 10 on they are in cases, to beyond 200");
        for (int c = 0; c < 11; c++) {
            x.go("call(0, " + c + ", 10) = 0");
        }
        x.go("begins(9, 0) = 190", "begins(9, 1) = 210", "begins(10, 0) = NONE", "waited(0, 11) = 10");
        x.go("waited(0, 10) = 0", "call(0, 10, 9) = 10", "waited(0, 10) = 1", "waited(0, 0) = 0");
        d.says("began at 199");
        x.go("fate(0, 0) = 20", "begins(10, 0) = 190", "fate(10, 9) = 20", "begins(11, 0) = 199");
        x.go("waited(1, 11) = 151", "waited(0, 11) = 10", "fate(10, 10) = 9", "begins(11, 0) = NONE");
        x.go("waited(1, 11) = 152", "waited(0, 11) = 10");
    }

    private static void waitsOfAll() {
        d.says("All that is WAITED by all, as THE DAY goes.");
        Run x = run().go("waits() = 0", "newCase(0, 8, 0) = 0", "newCase(0, 1, 0) = 1", "newCase(0, 1, 0) = 2");
        for (int w = 0; w < 10; w++) {
            x.go("witness(" + w % 5 + ", 0) = " + w);
        }
        x.go("waits() = 0", "needs(1, 512) = 0", "waits() = 8", "needs(1, 513) = 512", "waits() = 16");
        x.go("needs(1, 1023) = 513", "waits() = 80", "needs(2, 1) = 0", "waits() = 88", "fate(2, 0) = -1", "waits() = 88");
        x.go("call(0, 2, 9) = 0", "waits() = 80", "needs(1, 0) = 1023", "waits() = 0");
        d.says("the first CASE and the last, the first WITNESS and the last");
        x.go("needs(2, 0) = 1", "needs(0, 513) = 0", "call(9, 0, 4) = 0", "waits() = 4", "call(9, 0, 0) = 4",
                "call(0, 0, 5) = 0", "waits() = 5", "rule(2, 100) = 0", "pay(0) = 0", "call(0, 0, 0) = 5",
                "call(9, 0, 4) = 0", "pay(0) = 100");
        for (int c = 3; c < 12; c++) {
            x.go("newCase(" + c / 6 + ", 8, 0) = " + c);
        }
        x.go("needs(0, 0) = 513", "waits() = 0", "needs(11, 512) = 0", "begins(11, 0) = 40", "waits() = 40");
    }

    private static void beginsWhat() {
        d.says("what 0 the QUARTER at which it began (FOLDED: was gone), 1 at which it ends (FOLDED: the same), 2 whether");
        run().go("begins(0, 0) = BAD", "newCase(0, 4, 100) = 0", "newCase(0, 8, 0) = 1", "begins(1, 0) = 4",
                "begins(1, 1) = 12", "begins(1, 2) = 0", "fate(1, 0) = -1", "begins(1, 0) = 4", "begins(1, 1) = 4",
                "begins(1, 2) = 1", "begins(1, -1) = BAD", "begins(1, 3) = BAD", "begins(2, 0) = BAD",
                "begins(-1, 0) = BAD");
    }

    private static void hoursAreCut() {
        d.says("HOURS are all they WAITED together, / 4.");
        Run x = run().go("newCase(0, 1, 0) = 0", "newCase(0, 1, 0) = 1", "witness(0, 0) = 0", "needs(1, 1) = 0",
                "rule(2, 100) = 0");
        for (int l = 1; l <= 20; l++) {
            x.go("fate(0, " + l + ")", "waited(0, 1) = " + l, "pay(0) = " + l / 4 * 100);
        }
        d.says("two waits of 2 are an hour");
        x.go("fate(0, 2) = 20", "newCase(1, 2, 0) = 2", "newCase(1, 1, 0) = 3", "fate(1, 0) = -1", "needs(3, 1) = 0",
                "waited(0, 1) = 2", "waited(0, 3) = 2", "pay(0) = 100", "call(0, 3, 1) = 0", "pay(0) = 0");
    }

    private static void payOfNothing() {
        d.says("nothing, if they are CALLED for no CASE");
        Run x = run().go("newCase(0, 1, 0) = 0", "rule(2, 100) = 0", "rule(3, 100) = 0", "rule(4, 100) = 0");
        for (int kind = 0; kind <= 4; kind++) {
            x.go("witness(" + kind + ", 12) = " + kind, "pay(" + kind + ") = 0");
        }
        x.go("needs(0, 31) = 0", "pay(0) = 2400", "needs(0, 0) = 31", "pay(0) = 0", "pay(2) = 0", "pay(4) = 0");
        x.go("pay(5) = BAD", "pay(-1) = BAD");
        d.says("CALLED for no CASE of twelve");
        Run full = longDay(true).go("rule(3, 100) = 0", "rule(4, 100) = 0", "witness(2, 12) = 1", "pay(1) = 0",
                "room(1) = NONE", "needs(11, 2) = 1", "pay(1) = 2500", "needs(11, 1) = 2", "pay(1) = 0");
        full.go("needs(11, 0) = 1", "pay(0) = 1000");
        d.says("CALLED for one that is FOLDED they are CALLED for a CASE");
        x.go("fate(0, 0) = -1", "needs(0, 31) = 0", "pay(0) = 2400", "pay(1) = 0", "pay(2) = 2400", "pay(3) = 2400");
    }

    private static void payByKinds() {
        d.says("WITNESS: HOURS * LOST and 2 * WAY * TRAVEL; OFFICER 0; EXPERT: as a WITNESS, and FEE ..; CHILD, AFRAID");
        Run x = run().go("newCase(0, 8, 0) = 0", "newCase(0, 1, 0) = 1");
        for (int kind = 0; kind <= 4; kind++) {
            x.go("witness(" + kind + ", 1) = " + kind);
        }
        x.go("needs(1, 31) = 0", "pay(0) = 0", "pay(2) = 0", "pay(3) = 0", "fate(0, 9) = -1");
        long[] lost = {2, 0, 2, 0, 0};
        long[] travel = {2, 0, 2, 2, 2};
        long[] fee = {0, 0, 1, 0, 0};
        x.go("rule(2, 1) = 0");
        pays(x, lost);
        x.go("rule(2, 0) = 1", "rule(3, 1) = 0");
        pays(x, travel);
        x.go("rule(3, 0) = 1", "rule(4, 1) = 0");
        pays(x, fee);
    }

    private static void pays(Run x, long[] due) {
        for (int w = 0; w < due.length; w++) {
            x.go("pay(" + w + ") = " + due[w]);
        }
    }

    private static void feesOfCasesThatBegan() {
        d.says("FEE for each CASE that began and NEEDS them");
        Run x = longDay(false).go("rule(4, 100) = 0", "pay(0) = 1000", "fate(9, 19) = 20", "pay(0) = 1100");
        x.go("fate(10, 0) = 20", "pay(0) = 1100", "fate(11, 0) = 20", "pay(0) = 1000", "needs(0, 0) = 1", "pay(0) = 900");
        for (int c = 0; c < 12; c++) {
            x.go("needs(" + c + ", 1)", "fate(" + c + ", 1)");
        }
        x.go("pay(0) = 1200");
    }

    private static void pricesAtTheirEnds() {
        d.says("LOST, TRAVEL, FEE 0 .. 100 (0 at first).");
        run().go("newCase(0, 8, 0) = 0", "newCase(0, 1, 0) = 1", "witness(2, 12) = 0", "needs(1, 1) = 0",
                "fate(0, 16) = -1", "pay(0) = 0", "rule(2, 101) = BAD", "rule(3, 101) = BAD", "rule(4, 101) = BAD",
                "pay(0) = 0", "rule(2, 100) = 0", "pay(0) = 100", "rule(3, 100) = 0", "pay(0) = 2500", "rule(4, 100) = 0",
                "pay(0) = 2600", "rule(2, -1) = BAD", "rule(3, -1) = BAD", "rule(4, -1) = BAD", "pay(0) = 2600",
                "rule(2, 0) = 100", "rule(3, 0) = 100", "rule(4, 0) = 100", "pay(0) = 0");
    }
}
