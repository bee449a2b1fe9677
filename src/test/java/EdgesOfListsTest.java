/** The boundary cases that section 1 of the Terms and promises 1 to 9 name: lists, cases, witnesses, rules. */
public final class EdgesOfListsTest {
    private static final Due d = new Due();

    public static void main(String[] args) {
        newObject();
        courts();
        sixInAList();
        aListThatWasFull();
        twelveCases();
        numbersAfterRefusals();
        lengths();
        foldsOfCases();
        needNobodyAtFirst();
        tenWitnesses();
        kinds();
        ways();
        eachSetOfWitnesses();
        callsOfThoseWhoStay();
        foldBecomes();
        toldOfACase();
        placesOfAList();
        rulesAtFirst();
        rulesBecome();
        d.end("EdgesOfListsTest");
    }

    private static Run run() {
        return new Run(d);
    }

    private static void newObject() {
        d.says("CourtHouse(): Empty LISTS, no WITNESSES.");
        Run x = run();
        for (int what = 0; what <= 6; what++) {
            x.go("count(" + what + ") = 0");
        }
        for (int court = 0; court < 3; court++) {
            x.go("inList(" + court + ", 0) = NONE", "inList(" + court + ", 5) = NONE");
            x.go("idle(" + court + ", 0) = 0", "idle(" + court + ", 1) = 0");
        }
        x.go("told(0, 0) = BAD", "isOf(0, 0) = BAD", "best(0) = BAD", "plan(0) = BAD", "begins(0, 0) = BAD");
        x.go("waits() = 0", "pay(0) = BAD", "room(0) = BAD", "read(0) = BAD", "notice(0, 0) = BAD");
        x.go("take(0) = NOTHING", "take(1) = NOTHING", "newCase(0, 1, 0) = 0", "witness(0, 0) = 0");
        d.says("a second object begins anew");
        run().go("count(0) = 0", "count(1) = 0", "newCase(2, 1, 0) = 0", "inList(0, 0) = NONE");
    }

    private static void courts() {
        d.says("COURTS 0 .. 2 each have a LIST of CASES");
        run().go("newCase(2, 1, 0) = 0", "newCase(1, 1, 0) = 1", "newCase(0, 1, 0) = 2", "inList(0, 0) = 2",
                "inList(1, 0) = 1", "inList(2, 0) = 0", "told(0, 0) = 2", "told(1, 0) = 1", "told(2, 0) = 0",
                "newCase(3, 1, 0) = BAD", "newCase(-1, 1, 0) = BAD", "inList(3, 0) = BAD", "inList(-1, 0) = BAD");
    }

    private static void sixInAList() {
        d.says("a LIST of CASES, 6 at most, in order");
        for (int court = 0; court < 3; court++) {
            Run x = run();
            for (int i = 0; i < 6; i++) {
                x.go("newCase(" + court + ", 1, 0) = " + i, "told(" + i + ", 1) = " + i);
            }
            x.go("newCase(" + court + ", 1, 0) = FULL", "count(0) = 6", "inList(" + court + ", 6) = NONE");
            int other = (court + 1) % 3;
            x.go("newCase(" + other + ", 1, 0) = 6", "told(6, 1) = 0", "told(6, 0) = " + other);
            for (int i = 0; i < 6; i++) {
                x.go("inList(" + court + ", " + i + ") = " + i);
            }
        }
    }

    private static void aListThatWasFull() {
        d.says("FULL: twelve, or six in the LIST.");
        Run x = run();
        for (int i = 0; i < 6; i++) {
            x.go("newCase(1, 1, 0) = " + i);
        }
        x.go("newCase(1, 1, 0) = FULL", "move(2, 0) = 0", "newCase(1, 1, 0) = 6", "told(6, 1) = 5",
                "newCase(1, 1, 0) = FULL", "move(0, 1) = 5", "newCase(1, 1, 0) = FULL", "newCase(0, 1, 0) = 7",
                "inList(1, 0) = 1", "inList(1, 1) = 3", "inList(1, 4) = 6", "inList(1, 5) = 0");
    }

    private static void twelveCases() {
        d.says("CASES, 12 at most, numbered from 0 as they come (at the end of a LIST)");
        int[][] sizes = {{4, 4, 4}, {6, 6, 0}, {0, 6, 6}, {6, 1, 5}};
        for (int[] size : sizes) {
            Run x = run();
            int next = 0;
            for (int court = 0; court < 3; court++) {
                for (int place = 0; place < size[court]; place++) {
                    x.go("newCase(" + court + ", 1, 0) = " + next, "told(" + next + ", 1) = " + place);
                    x.go("inList(" + court + ", " + place + ") = " + next);
                    next++;
                }
            }
            for (int court = 0; court < 3; court++) {
                x.go("newCase(" + court + ", 1, 0) = FULL");
            }
            x.go("count(0) = 12", "told(11, 2) = 1", "told(12, 2) = BAD");
        }
    }

    private static void numbersAfterRefusals() {
        d.says("numbered from 0 as they come");
        run().go("newCase(0, 9, 0) = BAD", "newCase(0, 1, 0) = 0", "newCase(3, 1, 0) = BAD", "newCase(0, 1, 101) = BAD",
                "newCase(0, 1, 0) = 1", "told(1, 1) = 1", "witness(5, 0) = BAD", "witness(0, 0) = 0",
                "witness(0, 13) = BAD", "witness(0, 0) = 1", "count(0) = 2", "count(1) = 2");
    }

    private static void lengths() {
        d.says("have a LENGTH 1 .. 8 (QUARTERS)");
        run().go("newCase(0, 0, 0) = BAD", "newCase(0, 1, 0) = 0", "newCase(0, 8, 0) = 1", "newCase(0, 9, 0) = BAD",
                "told(0, 2) = 1", "told(1, 2) = 8", "begins(0, 1) = 1", "begins(1, 0) = 1", "begins(1, 1) = 9");
    }

    private static void foldsOfCases() {
        d.says("a FOLD 0 .. 100 (percent)");
        run().go("newCase(0, 1, -1) = BAD", "newCase(0, 1, 0) = 0", "newCase(0, 1, 100) = 1", "newCase(0, 1, 101) = BAD",
                "told(0, 3) = 0", "told(1, 3) = 100");
    }

    private static void needNobodyAtFirst() {
        d.says("NEED a set of WITNESSES (none at first)");
        run().go("witness(0, 0) = 0", "newCase(0, 1, 0) = 0", "told(0, 4) = 0", "called(0, 0) = NO", "room(0) = NONE",
                "needs(0, 1) = 0", "newCase(0, 1, 0) = 1", "told(1, 4) = 0", "called(0, 1) = NO", "witness(0, 0) = 1",
                "told(0, 4) = 1", "called(1, 0) = NO");
    }

    private static void tenWitnesses() {
        d.says("WITNESSES, 10 at most, numbered from 0");
        Run x = run().go("newCase(0, 1, 0) = 0");
        for (int w = 0; w < 10; w++) {
            x.go("isOf(" + w + ", 0) = BAD", "witness(0, 0) = " + w, "isOf(" + w + ", 0) = 1", "count(1) = " + (w + 1));
        }
        x.go("witness(0, 0) = FULL", "count(1) = 10", "isOf(9, 0) = 1", "isOf(10, 0) = BAD");
        x.go("needs(0, 1024) = BAD", "needs(0, 1023) = 0", "told(0, 4) = 1023", "called(9, 0) = 0");
    }

    private static void kinds() {
        d.says("0 WITNESS, 1 OFFICER, 2 EXPERT, 3 CHILD, 4 AFRAID (all are WITNESSES; AFRAID ones are CHILDREN, too");
        long[][] due = {{1, 0, 0, 0, 0}, {1, 1, 0, 0, 0}, {1, 0, 1, 0, 0}, {1, 0, 0, 1, 0}, {1, 0, 0, 1, 1}};
        Run x = run().go("witness(-1, 0) = BAD", "witness(5, 0) = BAD");
        for (int kind = 0; kind <= 4; kind++) {
            x.go("witness(" + kind + ", 0) = " + kind);
            for (int asked = 0; asked <= 4; asked++) {
                x.go("isOf(" + kind + ", " + asked + ") = " + due[kind][asked]);
            }
            x.go("isOf(" + kind + ", -1) = BAD", "isOf(" + kind + ", 5) = BAD");
        }
    }

    private static void ways() {
        d.says("have a WAY 0 .. 12 (QUARTERS from where they are)");
        run().go("newCase(0, 1, 0) = 0", "witness(0, -1) = BAD", "witness(0, 13) = BAD", "witness(0, 0) = 0",
                "witness(0, 12) = 1", "needs(0, 3) = 0", "called(0, 0) = 0", "called(1, 0) = 12",
                "call(0, 0, 0) = 0", "call(1, 0, 11) = NO", "call(1, 0, 12) = 12");
    }

    private static void eachSetOfWitnesses() {
        d.says("BAD: case, a WITNESS that there is not.");
        Run x = run().go("newCase(0, 1, 0) = 0", "needs(1, 0) = BAD", "needs(-1, 0) = BAD");
        x.go("needs(0, 0) = 0", "needs(0, 1) = BAD");
        int had = 0;
        for (int w = 0; w < 10; w++) {
            x.go("witness(0, 0) = " + w);
            int all = (1 << (w + 1)) - 1;
            x.go("needs(0, " + (all + 1) + ") = BAD", "needs(0, " + (2 * all + 1) + ") = BAD", "needs(0, -1) = BAD");
            x.go("needs(0, " + Integer.MIN_VALUE + ") = BAD", "needs(0, " + Integer.MAX_VALUE + ") = BAD");
            x.go("told(0, 4) = " + had, "needs(0, " + all + ") = " + had, "told(0, 4) = " + all);
            had = all;
        }
        for (int bit = 10; bit < 32; bit++) {
            x.go("needs(0, " + (1 << bit | 1) + ") = BAD");
        }
        x.go("needs(0, 512) = 1023", "needs(0, 1) = 512", "needs(0, 0) = 1", "told(0, 4) = 0");
    }

    private static void callsOfThoseWhoStay() {
        d.says("(What they are CALLED for stays with those who stay; others are CALLED at their WAY.)");
        Run x = run().go("newCase(0, 1, 0) = 0", "newCase(1, 1, 0) = 1", "witness(0, 5) = 0", "witness(0, 12) = 1",
                "witness(0, 0) = 2", "needs(0, 3) = 0", "needs(1, 3) = 0", "call(0, 0, 48) = 5", "call(1, 0, 40) = 12",
                "call(0, 1, 30) = 5");
        x.go("needs(0, 3) = 3", "called(0, 0) = 48", "called(1, 0) = 40");
        x.go("needs(0, 7) = 3", "called(0, 0) = 48", "called(1, 0) = 40", "called(2, 0) = 0");
        x.go("needs(0, 2) = 7", "called(0, 0) = NO", "called(1, 0) = 40", "called(2, 0) = NO");
        x.go("needs(0, 3) = 2", "called(0, 0) = 5", "called(1, 0) = 40", "called(0, 1) = 30");
        x.go("needs(0, 0) = 3", "needs(0, 3) = 0", "called(0, 0) = 5", "called(1, 0) = 12", "called(0, 1) = 30");
        d.says("and what was refused changed no call");
        x.go("call(0, 0, 9) = 5", "needs(0, 8) = BAD", "needs(0, 9) = BAD", "called(0, 0) = 9", "told(0, 4) = 3");
    }

    private static void foldBecomes() {
        d.says("FOLD of a CASE becomes v: what it was. BAD.");
        run().go("newCase(0, 1, 50) = 0", "newCase(0, 1, 60) = 1", "fold(0, 0) = 50", "fold(0, -1) = BAD",
                "told(0, 3) = 0", "fold(0, 100) = 0", "fold(0, 101) = BAD", "told(0, 3) = 100", "told(1, 3) = 60",
                "weight(1, 0) = 100", "fold(2, 0) = BAD", "fold(-1, 0) = BAD", "fold(1, 1) = 60");
    }

    private static void toldOfACase() {
        d.says("5 its FATE (NONE: not told; 0: FOLDED)");
        run().go("newCase(0, 8, 100) = 0", "told(0, 5) = NONE", "fate(0, 0) = -1", "told(0, 5) = 0", "fate(0, 1) = 0",
                "told(0, 5) = 1", "fate(0, 20) = 1", "told(0, 5) = 20", "fate(0, 21) = BAD", "told(0, 5) = 20",
                "fate(0, -1) = 20", "told(0, 5) = NONE", "told(0, 2) = 8", "told(0, 3) = 100");
        d.says("Of a CASE: what 0 .. 5. BAD.");
        run().go("told(0, 0) = BAD", "newCase(1, 1, 0) = 0", "told(0, -1) = BAD", "told(0, 6) = BAD",
                "told(1, 0) = BAD", "told(-1, 0) = BAD", "told(0, 0) = 1", "told(0, 1) = 0");
    }

    private static void placesOfAList() {
        d.says("The CASE at a place of a LIST; NONE. BAD: court, place below 0.");
        Run x = run().go("inList(0, 0) = NONE", "inList(0, -1) = BAD");
        for (int i = 0; i < 6; i++) {
            x.go("newCase(0, 1, 0) = " + i, "inList(0, " + i + ") = " + i, "inList(0, " + (i + 1) + ") = NONE");
        }
        x.go("inList(0, 7) = NONE", "inList(0, 18) = NONE", "inList(0, " + Integer.MAX_VALUE + ") = NONE");
        x.go("inList(0, " + Integer.MIN_VALUE + ") = BAD", "inList(1, 0) = NONE", "inList(2, 0) = NONE");
        d.says("a place that was left is none");
        x.go("newCase(1, 1, 0) = 6", "move(5, 1) = 1", "inList(0, 5) = NONE", "inList(1, 1) = 5", "inList(1, 2) = NONE",
                "move(6, 2) = 0", "inList(1, 0) = 5", "inList(1, 1) = NONE");
    }

    private static void rulesAtFirst() {
        d.says("WAIT is 1 .. 20 (1 at first), IDLE 0 .. 200 (4 at first). LOST, TRAVEL, FEE 0 .. 100 (0 at first).");
        run().go("rule(0, 20) = 1", "rule(1, 200) = 4", "rule(2, 100) = 0", "rule(3, 100) = 0", "rule(4, 100) = 0");
        run().go("rule(0, 1) = 1", "rule(1, 0) = 4", "rule(2, 0) = 0", "rule(3, 0) = 0", "rule(4, 0) = 0",
                "rule(0, 1) = 1", "rule(1, 0) = 0", "rule(2, 0) = 0", "rule(3, 0) = 0", "rule(4, 0) = 0");
    }

    private static void rulesBecome() {
        d.says("becomes v: what it was. BAD.");
        int[] least = {1, 0, 0, 0, 0};
        int[] most = {20, 200, 100, 100, 100};
        Run x = run();
        for (int which = 0; which < 5; which++) {
            String rule = "rule(" + which + ", ";
            x.go(rule + most[which] + ")", rule + (most[which] + 1) + ") = BAD", rule + (least[which] - 1) + ") = BAD");
            x.go(rule + least[which] + ") = " + most[which], rule + (least[which] - 1) + ") = BAD");
            x.go(rule + (least[which] + 1) + ") = " + least[which]);
        }
        x.go("rule(-1, 1) = BAD", "rule(5, 1) = BAD");
        for (int which = 0; which < 5; which++) {
            x.go("rule(" + which + ", 3) = " + (least[which] + 1));
        }
    }
}
