/** The boundary cases that section 2 of the Terms and promises 10 to 15 name: weights, costs, the best quarter, calls. */
public final class EdgesOfChancesTest {
    private static final Due d = new Due();

    public static void main(String[] args) {
        surelyAndNever();
        nobodyAhead();
        allWeightsTogether();
        fortyIsTheLast();
        costAboveAndBelow();
        costOfNobody();
        countsOfKinds();
        pricesAtTheirEnds();
        greatestCosts();
        bestFromTheGreatestWay();
        bestOfNobody();
        bestOfSeveral();
        bestAtForty();
        bestWhereThePriceTurns();
        callBounds();
        calledAtTheirWay();
        plans();
        d.end("EdgesOfChancesTest");
    }

    private static Run run() {
        return new Run(d);
    }

    private static void surelyAndNever() {
        d.says("a CASE ahead in the LIST folds with FOLD of 100, else it takes its LENGTH");
        int[] folds = {0, 1, 50, 99, 100};
        for (int fold : folds) {
            for (int length : new int[] {1, 8}) {
                Run x = run().go("newCase(0, " + length + ", " + fold + ") = 0", "newCase(0, 1, 0) = 1");
                x.go("weight(1, 0) = " + fold, "weight(1, " + length + ") = " + (100 - fold));
                x.go("weight(1, " + (length + 1) + ") = 0", "weight(1, 48) = 0");
                if (length > 1) {
                    x.go("weight(1, 1) = 0", "weight(1, 7) = 0");
                }
            }
        }
    }

    private static void nobodyAhead() {
        d.says("WEIGHT of a QUARTER t for a CASE with k CASES ahead: of all 100 to the power of k");
        Run x = run().go("newCase(0, 8, 100) = 0", "weight(0, 0) = 1", "weight(0, 1) = 0", "weight(0, 8) = 0",
                "weight(0, 48) = 0", "weight(0, -1) = BAD", "weight(0, 49) = BAD", "weight(1, 0) = BAD");
        d.says("FATES that are told are no CHANCES");
        x.go("newCase(0, 3, 30) = 1", "fate(0, 0) = -1", "weight(1, 0) = 100", "fold(0, 0) = 100", "weight(1, 8) = 100",
                "fate(0, 20) = 0", "weight(1, 8) = 100", "weight(1, 20) = 0", "fold(0, 100) = 0");
        d.says("cases behind it and in other lists are not ahead");
        x.go("newCase(1, 2, 20) = 2", "weight(0, 0) = 1", "weight(2, 0) = 1",
                "weight(1, 0) = 100", "move(0, 1) = 1", "weight(1, 0) = 1", "weight(0, 0) = 20", "weight(0, 2) = 80",
                "move(2, 2) = 0", "weight(0, 0) = 1");
    }

    private static void allWeightsTogether() {
        d.says("(so all WEIGHTS together are that)");
        Run x = run();
        long all = 1;
        int[] folds = {0, 100, 1, 99, 50, 0};
        for (int k = 0; k < 6; k++) {
            x.go("newCase(2, " + (8 - k) + ", " + folds[k] + ") = " + k);
            long sum = 0;
            for (int t = 0; t <= 48; t++) {
                sum += x.ask("weight(" + k + ", " + t + ")");
            }
            d.due("sum of weights with " + k + " ahead", sum, all);
            all *= 100;
        }
    }

    private static void fortyIsTheLast() {
        d.says("(0 .. 40 are what t can be.)");
        Run x = run();
        for (int i = 0; i < 6; i++) {
            x.go("newCase(0, 8, 0) = " + i);
        }
        x.go("weight(5, 40) = 10000000000", "weight(5, 39) = 0", "weight(5, 0) = 0", "weight(4, 32) = 100000000");
        for (int t = 41; t <= 48; t++) {
            x.go("weight(5, " + t + ") = 0");
        }
        for (int i = 0; i < 6; i++) {
            x.go("fold(" + i + ", 100) = 0");
        }
        x.go("weight(5, 0) = 10000000000", "weight(5, 40) = 0", "weight(5, 8) = 0");
    }

    private static void costAboveAndBelow() {
        d.says("(t - c) * WAIT * N, if t is above c; (c - t) * IDLE, if it is below.");
        Run x = run().go("newCase(0, 8, 0) = 0", "newCase(0, 1, 0) = 1", "witness(0, 0) = 0", "needs(1, 1) = 0",
                "needs(0, 1) = 0");
        x.go("cost(1, 7) = 100", "cost(1, 8) = 0", "cost(1, 9) = 400", "cost(1, 0) = 800", "cost(1, 48) = 16000");
        x.go("cost(0, 0) = 0", "cost(0, 1) = 4", "cost(0, 48) = 192");
        x.go("cost(0, -1) = BAD", "cost(0, 49) = BAD", "cost(1, 49) = BAD", "cost(2, 0) = BAD", "cost(-1, 0) = BAD");
    }

    private static void costOfNobody() {
        d.says("N: how many the CASE NEEDS");
        run().go("newCase(0, 8, 0) = 0", "newCase(0, 1, 0) = 1", "cost(1, 0) = 0", "cost(1, 7) = 0", "cost(1, 8) = 0",
                "cost(1, 9) = 400", "witness(0, 0) = 0", "needs(0, 1) = 0", "cost(1, 7) = 0", "needs(1, 1) = 0",
                "cost(1, 7) = 100", "needs(1, 0) = 1", "cost(1, 7) = 0");
    }

    private static void countsOfKinds() {
        d.says("an AFRAID one and a CHILD count 3 each, an OFFICER 2");
        int[] counts = {1, 2, 1, 3, 3};
        Run x = run().go("newCase(0, 1, 0) = 0", "newCase(0, 1, 0) = 1");
        for (int kind = 0; kind <= 4; kind++) {
            x.go("witness(" + kind + ", 0) = " + kind, "needs(1, " + (1 << kind) + ")");
            x.go("cost(1, 0) = " + 100 * counts[kind]);
        }
        x.go("needs(1, 31) = 16", "cost(1, 0) = 1000");
    }

    private static void pricesAtTheirEnds() {
        d.says("WAIT is 1 .. 20 (1 at first), IDLE 0 .. 200 (4 at first).");
        run().go("newCase(0, 8, 0) = 0", "newCase(0, 1, 0) = 1", "witness(0, 0) = 0", "needs(1, 1) = 0",
                "rule(0, 20) = 1", "cost(1, 7) = 2000", "rule(0, 21) = BAD", "cost(1, 7) = 2000", "rule(0, 1) = 20",
                "rule(0, 0) = BAD", "cost(1, 7) = 100", "rule(1, 200) = 4", "cost(1, 9) = 20000", "rule(1, 201) = BAD",
                "cost(1, 9) = 20000", "rule(1, 0) = 200", "rule(1, -1) = BAD", "cost(1, 9) = 0", "cost(1, 48) = 0");
    }

    private static void greatestCosts() {
        d.says("THE COST of calling for a QUARTER c: the sum, over all t (numbers far beyond an int)");
        Run x = run();
        for (int i = 0; i < 6; i++) {
            x.go("newCase(0, 8, 0) = " + i);
        }
        for (int w = 0; w < 10; w++) {
            x.go("witness(4, 12) = " + w);
        }
        x.go("needs(5, 1023) = 0", "rule(0, 20) = 1", "rule(1, 200) = 4");
        x.go("cost(5, 0) = 240000000000000", "cost(5, 48) = 16000000000000", "best(5) = 40");
        for (int i = 0; i < 5; i++) {
            x.go("fold(" + i + ", 100) = 0");
        }
        x.go("cost(5, 48) = 96000000000000", "cost(5, 0) = 0", "best(5) = 12");
    }

    private static void bestFromTheGreatestWay() {
        d.says("THE BEST QUARTER: of those from the greatest WAY of all whom it NEEDS");
        for (int way = 0; way <= 12; way++) {
            Run x = run().go("newCase(0, 8, 0) = 0", "newCase(0, 1, 0) = 1", "witness(0, 0) = 0");
            x.go("witness(0, " + way + ") = 1", "witness(0, 12) = 2", "needs(0, 4) = 0");
            x.go("needs(1, 3) = 0", "best(1) = " + Math.max(8, way), "needs(1, 1) = 3", "best(1) = 8");
            x.go("needs(0, 3) = 4", "best(0) = " + way, "needs(0, 0) = 3", "best(0) = 0");
        }
    }

    private static void bestOfNobody() {
        d.says("(0, if it NEEDS nobody)");
        run().go("newCase(0, 8, 0) = 0", "newCase(0, 1, 0) = 1", "witness(0, 12) = 0", "best(0) = 0", "best(1) = 0",
                "rule(1, 0) = 4", "best(1) = 0", "needs(1, 1) = 0", "best(1) = 12", "needs(1, 0) = 1", "best(1) = 0",
                "best(2) = BAD", "best(-1) = BAD");
    }

    private static void bestOfSeveral() {
        d.says("that of the least COST, of several the least");
        Run x = run().go("newCase(0, 8, 50) = 0", "newCase(0, 1, 0) = 1", "witness(0, 0) = 0", "needs(1, 1) = 0");
        d.says("0 .. 8 cost the same");
        x.go("rule(0, 4) = 1", "cost(1, 0) = 1600", "cost(1, 5) = 1600", "cost(1, 8) = 1600", "best(1) = 0");
        d.says("1 .. 8 cost the same, for one whose WAY is 1");
        x.go("witness(0, 1) = 1", "needs(1, 2) = 1", "best(1) = 1");
        d.says("8 .. 48 cost nothing");
        x.go("rule(1, 0) = 4", "cost(1, 7) = 200", "cost(1, 8) = 0", "cost(1, 48) = 0", "best(1) = 8");
    }

    private static void bestAtForty() {
        d.says("of those from the greatest WAY .. to 48");
        Run x = run();
        for (int i = 0; i < 6; i++) {
            x.go("newCase(1, 8, 0) = " + i);
        }
        x.go("witness(0, 12) = 0", "needs(5, 1) = 0", "best(5) = 40", "needs(4, 1) = 0", "best(4) = 32",
                "rule(1, 0) = 4", "best(5) = 40", "fold(0, 99) = 0", "best(5) = 40", "fold(0, 100) = 99", "best(5) = 32",
                "plan(5) = 32", "called(0, 5) = 32");
    }

    private static void bestWhereThePriceTurns() {
        d.says("the sum, over all t, of WEIGHT of t times ..");
        Run x = run().go("newCase(0, 8, 50) = 0", "newCase(0, 1, 0) = 1", "witness(0, 0) = 0", "needs(1, 1) = 0");
        x.go("rule(1, 20) = 4", "rule(0, 20) = 1", "best(1) = 0", "fold(0, 49) = 50", "best(1) = 8",
                "fold(0, 51) = 49", "best(1) = 0", "fold(0, 50) = 51", "rule(1, 19) = 20", "best(1) = 8",
                "rule(1, 21) = 19", "best(1) = 0");
    }

    private static void callBounds() {
        d.says("for a QUARTER 0 .. 48 that is not below their WAY");
        for (int way : new int[] {0, 1, 12}) {
            Run x = run().go("newCase(0, 1, 0) = 0", "newCase(0, 1, 0) = 1", "witness(0, " + way + ") = 0");
            x.go("call(0, 0, 20) = NO", "needs(0, 1) = 0", "call(0, 1, 20) = NO", "call(0, 0, 48) = " + way);
            x.go("call(0, 0, 49) = BAD", "call(0, 0, -1) = BAD", "called(0, 0) = 48");
            x.go("call(0, 0, " + (way - 1) + ") = " + (way == 0 ? "BAD" : "NO"), "called(0, 0) = 48");
            x.go("call(0, 0, " + way + ") = 48", "called(0, 0) = " + way, "called(0, 1) = NO");
        }
    }

    private static void calledAtTheirWay() {
        d.says("(at their WAY, if nothing else was told)");
        Run x = run().go("newCase(0, 1, 0) = 0");
        for (int w = 0; w < 10; w++) {
            x.go("witness(0, " + (w + 3) + ") = " + w);
        }
        x.go("needs(0, 1023) = 0");
        for (int w = 0; w < 10; w++) {
            x.go("called(" + w + ", 0) = " + (w + 3));
        }
        x.go("called(10, 0) = BAD", "called(-1, 0) = BAD", "called(0, 1) = BAD", "called(0, -1) = BAD");
        x.go("call(4, 0, 48) = 7", "called(3, 0) = 6", "called(4, 0) = 48", "called(5, 0) = 8");
    }

    private static void plans() {
        d.says("All whom a CASE NEEDS are CALLED for THE BEST QUARTER: it. BAD.");
        Run x = run().go("plan(0) = BAD", "newCase(0, 7, 0) = 0", "newCase(0, 1, 0) = 1", "witness(0, 0) = 0",
                "witness(0, 12) = 1", "witness(0, 6) = 2", "plan(1) = 0", "needs(1, 5) = 0", "needs(0, 7) = 0",
                "call(0, 1, 48) = 0");
        x.go("plan(1) = 7", "called(0, 1) = 7", "called(1, 1) = NO", "called(2, 1) = 7", "called(0, 0) = 0");
        x.go("plan(0) = 12", "called(0, 0) = 12", "called(1, 0) = 12", "called(2, 0) = 12", "called(0, 1) = 7");
        x.go("plan(2) = BAD", "plan(-1) = BAD", "plan(1) = 7", "told(1, 4) = 5");
    }
}
