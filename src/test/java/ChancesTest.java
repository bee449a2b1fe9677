/** Promises 10 to 15: weight, cost, best, call, called, plan. */
public final class ChancesTest {
    private static final Due d = new Due();

    public static void main(String[] args) {
        weightsOfFive();
        weightsAddUp();
        weightsGoWithTheList();
        costs();
        countsByKinds();
        bestQuarters();
        calls();
        plans();
        d.end("ChancesTest");
    }

    private static void weightsOfFive() {
        CourtHouse x = new CourtHouse();
        for (int i = 0; i < 6; i++) {
            x.newCase(0, 8, 1);
        }
        d.due("first begins at 0", x.weight(0, 0), 1);
        d.due("and at no other", x.weight(0, 1), 0);
        d.due("none folds", x.weight(5, 40), 9509900499L);
        d.due("all fold", x.weight(5, 0), 1);
        d.due("one folds", x.weight(5, 32), 5L * 96059601L);
        d.due("between", x.weight(5, 33), 0);
        for (int t = 41; t <= 48; t++) {
            d.due("above 40", x.weight(5, t), 0);
        }
        d.due("quarter 49", x.weight(5, 49), Due.BAD);
        d.due("no case", x.weight(6, 0), Due.BAD);
        for (int wild : Due.WILD) {
            d.due("weight quarter", x.weight(0, wild), Due.BAD);
            d.due("weight case", x.weight(wild, 0), Due.BAD);
        }
    }

    private static void weightsAddUp() {
        CourtHouse x = new CourtHouse();
        int[] length = {3, 1, 8, 2, 5, 7};
        int[] fold = {10, 99, 33, 0, 100, 50};
        long all = 1;
        for (int i = 0; i < 6; i++) {
            x.newCase(1, length[i], fold[i]);
            long sum = 0;
            for (int t = 0; t <= 48; t++) {
                sum += x.weight(i, t);
            }
            d.due("weights of " + i, sum, all);
            all *= 100;
        }
    }

    private static void weightsGoWithTheList() {
        CourtHouse x = new CourtHouse();
        x.newCase(0, 2, 30);
        x.newCase(0, 5, 60);
        x.newCase(1, 4, 90);
        d.due("another court's case", x.weight(2, 0), 1);
        d.due("weight", x.weight(1, 2), 70);
        x.fold(0, 80);
        d.due("weight after fold", x.weight(1, 2), 20);
        x.fate(0, 0);
        d.due("a fate is no chance", x.weight(1, 2), 20);
        x.fate(0, 9);
        d.due("a fate is no chance", x.weight(1, 9), 0);
        x.move(0, 1);
        d.due("weight after move", x.weight(1, 0), 1);
        d.due("weight behind", x.weight(0, 0), 90);
        d.due("weight behind", x.weight(0, 4), 10);
    }

    private static void costs() {
        CourtHouse x = new CourtHouse();
        x.newCase(0, 4, 25);
        x.newCase(0, 1, 0);
        x.witness(0, 2);
        d.due("cost needs nobody", x.cost(1, 0), 0);
        d.due("cost of an idle court", x.cost(1, 48), 4L * (48 * 25 + 44 * 75));
        x.needs(1, 1);
        d.due("cost at 0", x.cost(1, 0), 300);
        d.due("cost at 1", x.cost(1, 1), 100 + 225);
        d.due("cost at 4", x.cost(1, 4), 400);
        x.rule(0, 20);
        x.rule(1, 200);
        d.due("cost at 1, dear", x.cost(1, 1), 200 * 25 + 3 * 75 * 20);
        d.due("cost of the first", x.cost(0, 10), 2000);
        d.due("cost 49", x.cost(1, 49), Due.BAD);
        d.due("cost -1", x.cost(1, -1), Due.BAD);
        d.due("cost, no case", x.cost(2, 0), Due.BAD);
        for (int wild : Due.WILD) {
            d.due("cost quarter", x.cost(0, wild), Due.BAD);
            d.due("cost case", x.cost(wild, 0), Due.BAD);
        }
    }

    private static void countsByKinds() {
        long[] counts = {1, 2, 1, 3, 3};
        CourtHouse x = new CourtHouse();
        x.newCase(0, 6, 0);
        x.newCase(0, 1, 0);
        for (int kind = 0; kind < 5; kind++) {
            x.witness(kind, 0);
            x.needs(1, 1 << kind);
            d.due("counts for, kind " + kind, x.cost(1, 1), 5 * 100 * counts[kind]);
        }
        x.needs(1, 31);
        d.due("all together", x.cost(1, 0), 6 * 100 * 10);
    }

    private static void bestQuarters() {
        CourtHouse x = new CourtHouse();
        x.newCase(0, 8, 0);
        x.newCase(0, 1, 0);
        x.witness(0, 0);
        x.witness(0, 12);
        d.due("best, nobody", x.best(1), 0);
        x.needs(1, 1);
        d.due("best", x.best(1), 8);
        x.needs(1, 3);
        d.due("best, not below the greatest way", x.best(1), 12);
        x.needs(1, 1);
        x.rule(1, 0);
        d.due("best of several: the least", x.best(1), 8);
        x.fold(0, 50);
        d.due("best, waits alone cost", x.best(1), 8);
        x.rule(1, 1);
        d.due("best of a tie over 0 .. 8", x.best(1), 0);
        x.rule(1, 2);
        d.due("best", x.best(1), 0);
        x.rule(0, 3);
        d.due("best", x.best(1), 8);
        x.needs(1, 0);
        x.rule(1, 0);
        d.due("all cost nothing", x.best(1), 0);
        d.due("best, no case", x.best(2), Due.BAD);
        bestNextToTheFirst();
        for (int wild : Due.WILD) {
            d.due("best case", x.best(wild), Due.BAD);
        }
    }

    private static void bestNextToTheFirst() {
        CourtHouse x = new CourtHouse();
        x.newCase(0, 8, 0);
        x.newCase(0, 5, 0);
        x.newCase(0, 1, 0);
        x.witness(0, 12);
        x.needs(2, 1);
        d.due("one above the way", x.best(2), 13);
        x.move(0, 0);
        d.due("at the way", x.best(2), 12);
        d.due("behind", x.best(0), 0);
    }

    private static void calls() {
        CourtHouse x = new CourtHouse();
        x.newCase(0, 1, 0);
        x.newCase(0, 1, 0);
        x.witness(0, 4);
        x.witness(0, 0);
        x.needs(0, 3);
        x.needs(1, 2);
        d.due("call below their way", x.call(0, 0, 3), Due.NO);
        d.due("call at their way", x.call(0, 0, 4), 4);
        d.due("call 48", x.call(0, 0, 48), 4);
        d.due("called", x.called(0, 0), 48);
        d.due("other's call stays", x.called(1, 0), 0);
        d.due("call for another case", x.call(1, 1, 9), 0);
        d.due("call for this one stays", x.called(1, 0), 0);
        d.due("call 49", x.call(0, 0, 49), Due.BAD);
        d.due("call -1", x.call(0, 0, -1), Due.BAD);
        d.due("call, not needed", x.call(0, 1, 9), Due.NO);
        d.due("call, BAD ahead of NO", x.call(0, 1, 49), Due.BAD);
        d.due("call, no witness", x.call(2, 0, 9), Due.BAD);
        d.due("call, no case", x.call(0, 2, 9), Due.BAD);
        d.due("called, not needed", x.called(0, 1), Due.NO);
        d.due("called, no witness", x.called(2, 1), Due.BAD);
        d.due("called, no case", x.called(0, 2), Due.BAD);
        for (int wild : Due.WILD) {
            d.due("call witness", x.call(wild, 0, 9), Due.BAD);
            d.due("call case", x.call(0, wild, 9), Due.BAD);
            d.due("call quarter", x.call(0, 0, wild), Due.BAD);
            d.due("called witness", x.called(wild, 0), Due.BAD);
            d.due("called case", x.called(0, wild), Due.BAD);
        }
        d.due("refused calls change nothing", x.called(0, 0), 48);
    }

    private static void plans() {
        CourtHouse x = new CourtHouse();
        x.newCase(0, 7, 0);
        x.newCase(0, 1, 0);
        x.witness(0, 4);
        x.witness(3, 0);
        x.witness(0, 2);
        x.needs(1, 3);
        x.needs(0, 7);
        d.due("plan", x.plan(1), 7);
        d.due("plan calls 0", x.called(0, 1), 7);
        d.due("plan calls 1", x.called(1, 1), 7);
        d.due("another case's calls stay", x.called(1, 0), 0);
        d.due("not called for it", x.called(2, 1), Due.NO);
        d.due("plan the first", x.plan(0), 4);
        d.due("called", x.called(2, 0), 4);
        x.needs(1, 0);
        d.due("plan, nobody", x.plan(1), 0);
        d.due("plan, no case", x.plan(2), Due.BAD);
        for (int wild : Due.WILD) {
            d.due("plan case", x.plan(wild), Due.BAD);
        }
    }
}
