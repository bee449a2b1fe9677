/** Promises 1 to 9: a new object, newCase, witness, isOf, needs, fold, told, inList, rule. */
public final class CasesTest {
    private static final Due d = new Due();

    public static void main(String[] args) {
        newObject();
        newCases();
        twelveCases();
        witnesses();
        kinds();
        needsKeepsCalls();
        needsRefuses();
        folds();
        toldOfACase();
        lists();
        rules();
        d.end("CasesTest");
    }

    private static void newObject() {
        CourtHouse x = new CourtHouse();
        for (int what = 0; what <= 6; what++) {
            d.due("new: count(" + what + ")", x.count(what), 0);
        }
        for (int court = 0; court < 3; court++) {
            d.due("new: inList", x.inList(court, 0), Due.NONE);
            d.due("new: idle 0", x.idle(court, 0), 0);
            d.due("new: idle 1", x.idle(court, 1), 0);
        }
        d.due("new: waits", x.waits(), 0);
        d.due("new: told", x.told(0, 0), Due.BAD);
        d.due("new: isOf", x.isOf(0, 0), Due.BAD);
        d.due("new: notice", x.notice(0, 0), Due.BAD);
        d.due("new: take(0)", x.take(0), Due.NOTHING);
        d.due("new: take(1)", x.take(1), Due.NOTHING);
        int[] first = {1, 4, 0, 0, 0};
        for (int which = 0; which < 5; which++) {
            d.due("new: rule", x.rule(which, 1), first[which]);
        }
    }

    private static void newCases() {
        CourtHouse x = new CourtHouse();
        for (int wild : Due.WILD) {
            d.due("newCase court", x.newCase(wild, 1, 0), Due.BAD);
            d.due("newCase length", x.newCase(0, wild, 0), Due.BAD);
            d.due("newCase fold", x.newCase(0, 1, wild), Due.BAD);
        }
        d.due("newCase court 3", x.newCase(3, 1, 0), Due.BAD);
        d.due("newCase length 0", x.newCase(0, 0, 0), Due.BAD);
        d.due("newCase length 9", x.newCase(0, 9, 0), Due.BAD);
        d.due("newCase fold 101", x.newCase(0, 1, 101), Due.BAD);
        d.due("nothing came of it", x.count(0), 0);
        for (int i = 0; i < 6; i++) {
            d.due("newCase " + i, x.newCase(2, 8, 100), i);
            d.due("its place", x.told(i, 1), i);
        }
        d.due("newCase seventh in a list", x.newCase(2, 1, 0), Due.FULL);
        d.due("newCase BAD ahead of FULL", x.newCase(2, 0, 0), Due.BAD);
        d.due("newCase in another list", x.newCase(1, 1, 0), 6);
        d.due("its place", x.told(6, 1), 0);
    }

    private static void twelveCases() {
        CourtHouse x = new CourtHouse();
        for (int i = 0; i < 12; i++) {
            d.due("newCase by turns", x.newCase(i % 3, 1 + i % 8, i), i);
        }
        d.due("newCase thirteenth", x.newCase(0, 1, 0), Due.FULL);
        d.due("newCase thirteenth, BAD", x.newCase(0, 1, -1), Due.BAD);
        for (int i = 0; i < 12; i++) {
            d.due("court", x.told(i, 0), i % 3);
            d.due("place", x.told(i, 1), i / 3);
            d.due("length", x.told(i, 2), 1 + i % 8);
            d.due("fold", x.told(i, 3), i);
        }
    }

    private static void witnesses() {
        CourtHouse x = new CourtHouse();
        for (int wild : Due.WILD) {
            d.due("witness kind", x.witness(wild, 0), Due.BAD);
            d.due("witness way", x.witness(0, wild), Due.BAD);
        }
        d.due("witness kind 5", x.witness(5, 0), Due.BAD);
        d.due("witness way 13", x.witness(0, 13), Due.BAD);
        for (int i = 0; i < 10; i++) {
            d.due("witness " + i, x.witness(i % 5, i + 3), i);
        }
        d.due("eleventh witness", x.witness(0, 0), Due.FULL);
        d.due("eleventh witness, BAD", x.witness(0, 13), Due.BAD);
        d.due("count of witnesses", x.count(1), 10);
    }

    private static void kinds() {
        CourtHouse x = new CourtHouse();
        long[][] due = {{1, 0, 0, 0, 0}, {1, 1, 0, 0, 0}, {1, 0, 1, 0, 0}, {1, 0, 0, 1, 0}, {1, 0, 0, 1, 1}};
        for (int kind = 0; kind < 5; kind++) {
            x.witness(kind, 0);
        }
        for (int w = 0; w < 5; w++) {
            for (int kind = 0; kind < 5; kind++) {
                d.due("isOf(" + w + ", " + kind + ")", x.isOf(w, kind), due[w][kind]);
            }
        }
        d.due("isOf no kind", x.isOf(0, 5), Due.BAD);
        d.due("isOf no witness", x.isOf(5, 0), Due.BAD);
        for (int wild : Due.WILD) {
            d.due("isOf kind", x.isOf(0, wild), Due.BAD);
            d.due("isOf witness", x.isOf(wild, 0), Due.BAD);
        }
    }

    private static void needsKeepsCalls() {
        CourtHouse x = new CourtHouse();
        x.newCase(0, 1, 0);
        x.newCase(0, 1, 0);
        x.witness(0, 3);
        x.witness(0, 5);
        x.witness(0, 7);
        d.due("needs", x.needs(0, 3), 0);
        d.due("needs of another", x.needs(1, 1), 0);
        d.due("called at their way", x.called(0, 0), 3);
        d.due("called at their way", x.called(1, 0), 5);
        x.call(0, 0, 20);
        x.call(1, 0, 21);
        x.call(0, 1, 22);
        d.due("needs: 1 stays", x.needs(0, 6), 3);
        d.due("1 stays called", x.called(1, 0), 21);
        d.due("2 at their way", x.called(2, 0), 7);
        d.due("0 is not needed", x.called(0, 0), Due.NO);
        d.due("needs: 0 comes again", x.needs(0, 7), 6);
        d.due("0 at their way again", x.called(0, 0), 3);
        d.due("1 stays called", x.called(1, 0), 21);
        d.due("another case's call stays", x.called(0, 1), 22);
        d.due("needs the same", x.needs(0, 7), 7);
        d.due("1 stays called", x.called(1, 0), 21);
        d.due("needs nobody", x.needs(0, 0), 7);
        d.due("told", x.told(0, 4), 0);
    }

    private static void needsRefuses() {
        CourtHouse x = new CourtHouse();
        d.due("needs without cases", x.needs(0, 0), Due.BAD);
        x.newCase(0, 1, 0);
        d.due("needs one that there is not", x.needs(0, 1), Due.BAD);
        x.witness(0, 0);
        x.witness(0, 0);
        d.due("needs 4", x.needs(0, 4), Due.BAD);
        d.due("needs 5", x.needs(0, 5), Due.BAD);
        d.due("needs -1", x.needs(0, -1), Due.BAD);
        d.due("needs min", x.needs(0, Integer.MIN_VALUE), Due.BAD);
        d.due("needs max", x.needs(0, Integer.MAX_VALUE), Due.BAD);
        d.due("needs, no case", x.needs(1, 1), Due.BAD);
        d.due("needs, case -1", x.needs(-1, 1), Due.BAD);
        d.due("nothing changed", x.told(0, 4), 0);
        for (int i = 2; i < 10; i++) {
            x.witness(0, 0);
        }
        d.due("needs 1024", x.needs(0, 1024), Due.BAD);
        d.due("needs all", x.needs(0, 1023), 0);
        d.due("told all", x.told(0, 4), 1023);
    }

    private static void folds() {
        CourtHouse x = new CourtHouse();
        x.newCase(0, 1, 7);
        d.due("fold", x.fold(0, 100), 7);
        d.due("fold", x.fold(0, 0), 100);
        d.due("fold 101", x.fold(0, 101), Due.BAD);
        d.due("fold -1", x.fold(0, -1), Due.BAD);
        d.due("fold, no case", x.fold(1, 0), Due.BAD);
        d.due("fold, case -1", x.fold(-1, 0), Due.BAD);
        d.due("fold stands", x.told(0, 3), 0);
    }

    private static void toldOfACase() {
        CourtHouse x = new CourtHouse();
        x.newCase(1, 1, 0);
        x.newCase(1, 5, 40);
        x.witness(0, 0);
        x.needs(1, 1);
        long[] due = {1, 1, 5, 40, 1, Due.NONE};
        for (int what = 0; what < 6; what++) {
            d.due("told " + what, x.told(1, what), due[what]);
        }
        x.fate(1, 0);
        d.due("told FOLDED", x.told(1, 5), 0);
        x.fate(1, 20);
        d.due("told fate 20", x.told(1, 5), 20);
        x.fate(1, -1);
        d.due("told no fate", x.told(1, 5), Due.NONE);
        d.due("told 6", x.told(1, 6), Due.BAD);
        d.due("told, no case", x.told(2, 0), Due.BAD);
        for (int wild : Due.WILD) {
            d.due("told what", x.told(0, wild), Due.BAD);
            d.due("told case", x.told(wild, 0), Due.BAD);
        }
    }

    private static void lists() {
        CourtHouse x = new CourtHouse();
        x.newCase(2, 1, 0);
        x.newCase(0, 1, 0);
        x.newCase(2, 1, 0);
        d.due("inList", x.inList(2, 0), 0);
        d.due("inList", x.inList(2, 1), 2);
        d.due("inList", x.inList(0, 0), 1);
        d.due("inList NONE", x.inList(2, 2), Due.NONE);
        d.due("inList NONE in an empty one", x.inList(1, 0), Due.NONE);
        d.due("inList far", x.inList(0, Integer.MAX_VALUE), Due.NONE);
        d.due("inList 6", x.inList(0, 6), Due.NONE);
        d.due("inList place -1", x.inList(0, -1), Due.BAD);
        d.due("inList place min", x.inList(0, Integer.MIN_VALUE), Due.BAD);
        d.due("inList court 3", x.inList(3, 0), Due.BAD);
        d.due("inList court -1", x.inList(-1, 0), Due.BAD);
    }

    private static void rules() {
        CourtHouse x = new CourtHouse();
        int[] least = {1, 0, 0, 0, 0};
        int[] most = {20, 200, 100, 100, 100};
        int[] first = {1, 4, 0, 0, 0};
        for (int which = 0; which < 5; which++) {
            d.due("rule below", x.rule(which, least[which] - 1), Due.BAD);
            d.due("rule above", x.rule(which, most[which] + 1), Due.BAD);
            d.due("rule most", x.rule(which, most[which]), first[which]);
            d.due("rule least", x.rule(which, least[which]), most[which]);
            d.due("rule least again", x.rule(which, least[which]), least[which]);
        }
        d.due("rule 5", x.rule(5, 1), Due.BAD);
        for (int wild : Due.WILD) {
            d.due("rule which", x.rule(wild, 1), Due.BAD);
            d.due("rule v", x.rule(1, wild), Due.BAD);
        }
    }
}
