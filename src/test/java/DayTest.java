/** Promises 16 to 21: fate, begins, waited, idle, waits, pay. */
public final class DayTest {
    private static final Due d = new Due();

    public static void main(String[] args) {
        fates();
        foldedOnes();
        oneWitnessInThreeCourts();
        idleByCauses();
        dayComesTo200();
        waitsOfAFoldedCase();
        waitsLessOtherCases();
        pays();
        eachRunsTheDay();
        fullHouse();
        wrongOnes();
        d.end("DayTest");
    }

    private static void fates() {
        CourtHouse x = new CourtHouse();
        x.newCase(0, 3, 100);
        d.due("fate was not told", x.fate(0, 20), -1);
        d.due("begins", x.begins(0, 0), 0);
        d.due("takes 20", x.begins(0, 1), 20);
        d.due("fate was 20", x.fate(0, 1), 20);
        d.due("takes 1", x.begins(0, 1), 1);
        d.due("fate was 1", x.fate(0, 0), 1);
        d.due("folded ends as it is gone", x.begins(0, 1), 0);
        d.due("folded", x.begins(0, 2), 1);
        d.due("fate was 0", x.fate(0, -1), 0);
        d.due("takes its length, whatever its fold", x.begins(0, 1), 3);
        d.due("not folded", x.begins(0, 2), 0);
        d.due("fate 21", x.fate(0, 21), Due.BAD);
        d.due("fate -2", x.fate(0, -2), Due.BAD);
        d.due("fate, no case", x.fate(1, 0), Due.BAD);
        d.due("no fate told", x.count(5), 0);
    }

    private static void foldedOnes() {
        CourtHouse x = new CourtHouse();
        for (int i = 0; i < 5; i++) {
            x.newCase(0, 2, 0);
        }
        x.witness(0, 9);
        x.needs(2, 1);
        x.fate(1, 0);
        x.fate(2, 0);
        x.fate(4, 0);
        d.due("gone when the one ahead has ended", x.begins(1, 0), 2);
        d.due("gone without whom it needs", x.begins(2, 0), 2);
        d.due("ends as it is gone", x.begins(2, 1), 2);
        d.due("next begins at once", x.begins(3, 0), 2);
        d.due("the last is gone", x.begins(4, 0), 4);
        d.due("no idle", x.idle(0, 0) + x.idle(0, 1), 0);
        d.due("waited for none: gone ahead of the call", x.waited(0, 2), 0);
    }

    private static void oneWitnessInThreeCourts() {
        CourtHouse x = new CourtHouse();
        x.newCase(2, 3, 0);
        x.newCase(1, 4, 0);
        x.newCase(0, 5, 0);
        x.witness(0, 1);
        for (int i = 0; i < 3; i++) {
            x.needs(i, 1);
        }
        d.due("court 0 first", x.begins(2, 0), 1);
        d.due("then court 1", x.begins(1, 0), 6);
        d.due("then court 2", x.begins(0, 0), 10);
        d.due("ends", x.begins(0, 1), 13);
        d.due("idle 0 of 2", x.idle(2, 0), 1);
        d.due("idle 1 of 2", x.idle(2, 1), 9);
        d.due("idle 1 of 1", x.idle(1, 1), 5);
        d.due("idle 1 of 0", x.idle(0, 1), 0);
        d.due("never just waiting", x.waits(), 0);
        x.newCase(0, 1, 0);
        x.needs(3, 1);
        d.due("court 0 gets them again first", x.begins(3, 0), 6);
        d.due("court 1", x.begins(1, 0), 7);
    }

    private static void idleByCauses() {
        CourtHouse x = new CourtHouse();
        x.newCase(0, 8, 0);
        x.newCase(1, 1, 0);
        x.newCase(1, 1, 0);
        x.witness(0, 0);
        x.witness(0, 3);
        x.needs(0, 1);
        x.needs(1, 3);
        d.due("late ahead of elsewhere", x.idle(1, 0), 3);
        d.due("elsewhere", x.idle(1, 1), 5);
        d.due("begins", x.begins(1, 0), 8);
        d.due("nothing behind it is looked at", x.begins(2, 0), 9);
        d.due("a list that is through is not idle", x.idle(0, 0) + x.idle(0, 1), 0);
        d.due("an empty list is not idle", x.idle(2, 0) + x.idle(2, 1), 0);
        d.due("waited", x.waited(1, 1), 5);
    }

    private static void dayComesTo200() {
        CourtHouse x = new CourtHouse();
        x.witness(2, 0);
        for (int i = 0; i < 12; i++) {
            x.newCase(i < 6 ? 0 : 1, 8, 0);
            x.needs(i, 1);
            x.fate(i, 20);
        }
        for (int i = 0; i < 6; i++) {
            d.due("court 0", x.begins(i, 0), 20 * i);
        }
        for (int i = 6; i < 10; i++) {
            d.due("court 1", x.begins(i, 0), 20 * i);
        }
        for (int what = 0; what < 3; what++) {
            d.due("200 is too late", x.begins(10, what), Due.NONE);
            d.due("never looked at", x.begins(11, what), Due.NONE);
        }
        x.fate(11, 0);
        d.due("never looked at, so not gone", x.begins(11, 2), Due.NONE);
        d.due("idle to the end", x.idle(1, 1), 120);
        x.fate(9, 19);
        d.due("199 is the last one", x.begins(10, 0), 199);
        d.due("ends", x.begins(10, 1), 219);
        d.due("never gone", x.begins(11, 0), Due.NONE);
        d.due("waited to 200, less all other cases", x.waited(0, 11), 0);
        x.fate(10, 20);
        x.call(0, 10, 48);
        x.fate(5, 0);
        x.rule(4, 7);
        d.due("fees for those that began", x.pay(0), 7 * 10);
        x.witness(0, 2);
        x.fate(5, 20);
        x.fate(9, 20);
        x.needs(11, 2);
        x.call(1, 11, 30);
        d.due("waited to 200", x.waited(1, 11), 170);
    }

    private static void waitsOfAFoldedCase() {
        CourtHouse x = new CourtHouse();
        x.newCase(0, 8, 0);
        x.newCase(0, 8, 0);
        x.witness(0, 2);
        x.needs(1, 1);
        x.fate(1, 0);
        d.due("waited until it was gone", x.waited(0, 1), 6);
        x.call(0, 1, 8);
        d.due("called as it was gone", x.waited(0, 1), 0);
        x.call(0, 1, 9);
        d.due("called behind that", x.waited(0, 1), 0);
        d.due("waits", x.waits(), 0);
    }

    private static void waitsLessOtherCases() {
        CourtHouse x = new CourtHouse();
        x.newCase(0, 4, 0);
        x.newCase(0, 8, 0);
        x.newCase(0, 1, 0);
        x.newCase(1, 2, 0);
        x.witness(0, 0);
        x.witness(0, 0);
        x.needs(2, 3);
        x.needs(3, 1);
        x.call(0, 3, 5);
        x.call(0, 2, 6);
        d.due("case in court 1", x.begins(3, 0), 5);
        d.due("its end", x.begins(3, 1), 7);
        d.due("6 .. 11 less 6", x.waited(0, 2), 5);
        d.due("0 .. 11", x.waited(1, 2), 12);
        d.due("all", x.waits(), 17);
        d.due("not needed", x.waited(1, 3), Due.NO);
    }

    private static void pays() {
        CourtHouse x = new CourtHouse();
        x.newCase(0, 7, 0);
        x.newCase(0, 2, 0);
        x.newCase(0, 2, 0);
        for (int kind = 0; kind < 5; kind++) {
            x.witness(kind, 3);
        }
        x.rule(2, 10);
        x.rule(3, 100);
        x.rule(4, 1);
        for (int w = 0; w < 5; w++) {
            d.due("called for nothing", x.pay(w), 0);
        }
        x.needs(1, 31);
        x.needs(2, 31);
        // waits: 3 .. 6 for case 1; 3 .. 8 less 7, 8 for case 2: 4 and 4, two hours
        d.due("waited", x.waited(0, 2), 4);
        d.due("WITNESS", x.pay(0), 20 + 600);
        d.due("OFFICER", x.pay(1), 0);
        d.due("EXPERT", x.pay(2), 20 + 600 + 2);
        d.due("CHILD", x.pay(3), 600);
        d.due("AFRAID", x.pay(4), 600);
        x.fate(2, 0);
        d.due("no fee for a folded one", x.pay(2), 20 + 600 + 1);
        x.call(2, 2, 5);
        d.due("hours of all together: 4 and 2", x.pay(2), 10 + 600 + 1);
        x.call(2, 1, 4);
        x.call(2, 2, 4);
        d.due("3 and 3 are one hour", x.pay(2), 10 + 600 + 1);
        d.due("no such witness", x.pay(5), Due.BAD);
    }

    /** Each question is the first one after a change, so that none may answer by an older day. */
    private static void eachRunsTheDay() {
        CourtHouse x = new CourtHouse();
        x.witness(2, 0);
        x.newCase(0, 8, 0);
        x.newCase(0, 1, 0);
        x.needs(0, 1);
        x.needs(1, 1);
        x.rule(2, 1);
        x.rule(4, 100);
        d.due("pay of a day not run yet", x.pay(0), 200);
        x.call(0, 0, 9);
        d.due("waits", x.waits(), 9);
        x.call(0, 1, 9);
        d.due("pay", x.pay(0), 200);
        x.fate(0, 0);
        d.due("waited", x.waited(0, 0), 0);
        x.fate(0, 20);
        d.due("idle", x.idle(0, 0), 9);
        x.call(0, 0, 5);
        d.due("begins", x.begins(1, 0), 25);
        x.newCase(1, 8, 0);
        x.needs(2, 1);
        d.due("pay of three, in a case all the time", x.pay(0), 300);
        x.newCase(2, 1, 0);
        x.needs(0, 0);
        d.due("pay of two: 9 .. 19 for case 1 are two hours", x.pay(0), 200 + 2);
    }

    /** All numbers at their greatest: ten witnesses, twelve cases, three courts. */
    private static void fullHouse() {
        CourtHouse x = new CourtHouse();
        for (int w = 0; w < 10; w++) {
            x.witness(w % 5, 0);
        }
        for (int c = 0; c < 12; c++) {
            x.newCase(c % 3, 1, 0);
            d.due("needs all", x.needs(c, 1023), 0);
        }
        for (int c = 0; c < 12; c++) {
            int inTurn = c % 3 * 4 + c / 3;
            d.due("one court after the other, " + c, x.begins(c, 0), inTurn);
            d.due("as there is a case all the time", x.waited(9, c), 0);
            d.due("best", x.best(c) >= 0 ? 1 : 0, 1);
            d.due("plan", x.plan(c), x.called(9, c));
        }
        d.due("room", x.room(9), 2);
        for (int w = 0; w < 9; w++) {
            d.due("apart", x.apart(9, w, 1), 0);
        }
        d.due("pairs", x.count(4), 9);
        d.due("room", x.room(9), Due.NO);
        for (int c = 0; c < 12; c++) {
            d.due("move", x.move(c, c % 3), 3);
        }
        d.due("notices", x.count(2), 60);
        d.due("waits", x.waits() >= 0 ? 1 : 0, 1);
    }

    private static void wrongOnes() {
        CourtHouse x = new CourtHouse();
        x.newCase(0, 1, 0);
        x.witness(0, 0);
        for (int wild : Due.WILD) {
            d.due("fate case", x.fate(wild, 0), Due.BAD);
            if (wild != -1) {
                d.due("fate v", x.fate(0, wild), Due.BAD);
            }
            d.due("begins case", x.begins(wild, 0), Due.BAD);
            d.due("begins what", x.begins(0, wild), Due.BAD);
            d.due("waited witness", x.waited(wild, 0), Due.BAD);
            d.due("waited case", x.waited(0, wild), Due.BAD);
            d.due("idle court", x.idle(wild, 0), Due.BAD);
            d.due("idle cause", x.idle(0, wild), Due.BAD);
            d.due("pay", x.pay(wild), Due.BAD);
        }
        d.due("begins 3", x.begins(0, 3), Due.BAD);
        d.due("begins, no case", x.begins(1, 0), Due.BAD);
        d.due("waited, not needed", x.waited(0, 0), Due.NO);
        d.due("waited, no witness", x.waited(1, 0), Due.BAD);
        d.due("waited, no case", x.waited(0, 1), Due.BAD);
        d.due("idle court 3", x.idle(3, 0), Due.BAD);
        d.due("idle cause 2", x.idle(0, 2), Due.BAD);
    }
}
