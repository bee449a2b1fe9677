import java.util.HashMap;
import java.util.List;
import java.util.Map;

/**
 * "A call that is refused answers one of BAD, NO, FULL, SPENT, or a FINDING, of several the one that stands first with
 * it, and changes nothing." For each number of each call: its least and its most are not refused, one below and one
 * above are, and all that can be seen of the house is as if the refused call had not been.
 */
public final class RefusalsTest {
    private interface House {
        Run build(Due d);
    }

    private static final House EMPTY = Houses::empty;
    private static final House ORDINARY = Houses::ordinary;
    private static final House FULL = Houses::full;
    private static final House SIX_IN_ONE_LIST = Houses::sixInOneList;
    private static final House WITHOUT_ROOMS = Houses::withoutRooms;
    private static final House ONE_SHEET = Houses::oneSheet;

    private static final Due d = new Due();
    private static final Map<House, Map<Integer, List<String>>> BEFORE = new HashMap<>();

    public static void main(String[] args) {
        newCase();
        witness();
        isOf();
        needs();
        fold();
        told();
        inList();
        rule();
        weightAndCost();
        best();
        call();
        called();
        plan();
        fate();
        begins();
        waited();
        idle();
        pay();
        apart();
        room();
        move();
        notice();
        read();
        sheet();
        mark();
        copy();
        copyOfHowMany();
        take();
        count();
        d.end("RefusalsTest");
    }

    private static List<String> before(House house, int part) {
        return BEFORE.computeIfAbsent(house, h -> new HashMap<>())
                .computeIfAbsent(part, p -> Seen.part(house.build(d), p));
    }

    /** The call answers so, and all that can be seen afterwards is as in a house in which it was not made. */
    private static void refused(House house, String call, String want) {
        for (int part = 0; part < Seen.PARTS; part++) {
            Run x = house.build(d).go(call + " = " + want);
            List<String> after = Seen.part(x, part);
            List<String> due = before(house, part);
            d.holds(call + " changed how much is seen", after.size() == due.size());
            for (int i = 0; i < after.size() && i < due.size(); i++) {
                d.holds(call + " changed: " + after.get(i) + ", was " + due.get(i), after.get(i).equals(due.get(i)));
            }
        }
    }

    private static void notRefused(House house, String call, String refusal) {
        long got = house.build(d).ask(call);
        d.holds(call + " answered " + refusal, got != Run.number(refusal));
    }

    /** The number that stands for # may be from least to most, both too. */
    private static void bounds(House house, String call, int least, int most, String refusal) {
        for (int v : new int[] {least, most}) {
            notRefused(house, call.replace("#", "" + v), refusal);
        }
        for (int v : new int[] {least - 1, most + 1, Integer.MIN_VALUE, Integer.MAX_VALUE}) {
            refused(house, call.replace("#", "" + v), refusal);
        }
    }

    private static void courts(String call) {
        bounds(ORDINARY, call, 0, 2, "BAD");
    }

    /** As many cases as the house has: none, seven, twelve. */
    private static void cases(String call) {
        refused(EMPTY, call.replace("#", "-1"), "BAD");
        refused(EMPTY, call.replace("#", "0"), "BAD");
        bounds(ORDINARY, call, 0, 6, "BAD");
        bounds(FULL, call, 0, 11, "BAD");
    }

    /** As many witnesses as the house has: none, six, ten. */
    private static void witnesses(String call) {
        refused(EMPTY, call.replace("#", "-1"), "BAD");
        refused(EMPTY, call.replace("#", "0"), "BAD");
        bounds(ORDINARY, call, 0, 5, "BAD");
        bounds(FULL, call, 0, 9, "BAD");
    }

    private static void newCase() {
        d.says("BAD: court, length, fold; FULL: twelve, or six in the LIST.");
        courts("newCase(#, 1, 0)");
        bounds(ORDINARY, "newCase(1, #, 0)", 1, 8, "BAD");
        bounds(ORDINARY, "newCase(1, 1, #)", 0, 100, "BAD");
        refused(FULL, "newCase(0, 1, 0)", "FULL");
        refused(FULL, "newCase(2, 1, 0)", "FULL");
        refused(SIX_IN_ONE_LIST, "newCase(0, 8, 100)", "FULL");
        notRefused(SIX_IN_ONE_LIST, "newCase(1, 8, 100)", "FULL");
        d.says("newCase: BAD stands ahead of FULL");
        refused(FULL, "newCase(3, 1, 0)", "BAD");
        refused(FULL, "newCase(0, 0, 0)", "BAD");
        refused(FULL, "newCase(2, 1, 101)", "BAD");
        refused(SIX_IN_ONE_LIST, "newCase(0, 9, 0)", "BAD");
        refused(SIX_IN_ONE_LIST, "newCase(0, 1, -1)", "BAD");
    }

    private static void witness() {
        d.says("WITNESSES, 10 at most .. a KIND: 0 .. 4 .. a WAY 0 .. 12");
        bounds(ORDINARY, "witness(#, 0)", 0, 4, "BAD");
        bounds(ORDINARY, "witness(0, #)", 0, 12, "BAD");
        refused(FULL, "witness(0, 0)", "FULL");
        refused(FULL, "witness(4, 12)", "FULL");
        d.says("witness: BAD stands ahead of FULL");
        refused(FULL, "witness(5, 0)", "BAD");
        refused(FULL, "witness(-1, 0)", "BAD");
        refused(FULL, "witness(0, 13)", "BAD");
        refused(FULL, "witness(0, -1)", "BAD");
    }

    private static void isOf() {
        d.says("Whether a WITNESS is of a KIND (0 .. 4): 1, 0. BAD.");
        witnesses("isOf(#, 0)");
        bounds(ORDINARY, "isOf(0, #)", 0, 4, "BAD");
    }

    private static void needs() {
        d.says("BAD: case, a WITNESS that there is not.");
        cases("needs(#, 0)");
        bounds(ORDINARY, "needs(1, #)", 0, 63, "BAD");
        bounds(FULL, "needs(1, #)", 0, 1023, "BAD");
        // one who is there beside one who is not; each bit above those who are there
        refused(ORDINARY, "needs(1, 65)", "BAD");
        for (int bit = 6; bit < 32; bit++) {
            refused(ORDINARY, "needs(1, " + (1 << bit) + ")", "BAD");
        }
        refused(EMPTY, "needs(0, 1)", "BAD");
    }

    private static void fold() {
        d.says("FOLD of a CASE becomes v: what it was. BAD.");
        cases("fold(#, 3)");
        bounds(ORDINARY, "fold(1, #)", 0, 100, "BAD");
    }

    private static void told() {
        d.says("Of a CASE: what 0 COURT .. 5 its FATE");
        cases("told(#, 0)");
        bounds(ORDINARY, "told(1, #)", 0, 5, "BAD");
    }

    private static void inList() {
        d.says("The CASE at a place of a LIST; NONE. BAD: court, place below 0.");
        courts("inList(#, 0)");
        notRefused(ORDINARY, "inList(0, 0)", "BAD");
        notRefused(ORDINARY, "inList(0, 6)", "BAD");
        notRefused(ORDINARY, "inList(0, " + Integer.MAX_VALUE + ")", "BAD");
        refused(ORDINARY, "inList(0, -1)", "BAD");
        refused(ORDINARY, "inList(0, " + Integer.MIN_VALUE + ")", "BAD");
    }

    private static void rule() {
        d.says("WAIT is 1 .. 20 (1 at first), IDLE 0 .. 200 (4 at first). LOST, TRAVEL, FEE 0 .. 100 (0 at first).");
        bounds(ORDINARY, "rule(#, 5)", 0, 4, "BAD");
        bounds(ORDINARY, "rule(0, #)", 1, 20, "BAD");
        bounds(ORDINARY, "rule(1, #)", 0, 200, "BAD");
        bounds(ORDINARY, "rule(2, #)", 0, 100, "BAD");
        bounds(ORDINARY, "rule(3, #)", 0, 100, "BAD");
        bounds(ORDINARY, "rule(4, #)", 0, 100, "BAD");
    }

    private static void weightAndCost() {
        d.says("WEIGHT of a QUARTER (0 .. 48) for a CASE. BAD.");
        cases("weight(#, 0)");
        bounds(ORDINARY, "weight(6, #)", 0, 48, "BAD");
        d.says("THE COST of calling for a QUARTER (0 .. 48). BAD.");
        cases("cost(#, 0)");
        bounds(ORDINARY, "cost(6, #)", 0, 48, "BAD");
    }

    private static void best() {
        d.says("THE BEST QUARTER. BAD.");
        cases("best(#)");
    }

    private static void call() {
        d.says("BAD: witness, case, quarter 0 .. 48; NO: it does not NEED them, or the QUARTER is below their WAY.");
        witnesses("call(#, 0, 12)");
        cases("call(0, #, 12)");
        bounds(ORDINARY, "call(1, 1, #)", 0, 48, "BAD");
        refused(ORDINARY, "call(1, 0, 12)", "NO");
        refused(ORDINARY, "call(5, 0, 48)", "NO");
        refused(ORDINARY, "call(2, 1, 11)", "NO");
        refused(ORDINARY, "call(2, 1, 0)", "NO");
        notRefused(ORDINARY, "call(2, 1, 12)", "NO");
        refused(FULL, "call(9, 1, 11)", "NO");
        notRefused(FULL, "call(9, 1, 12)", "NO");
        refused(ORDINARY, "call(2, 0, 11)", "NO");
        d.says("call: BAD stands ahead of NO");
        refused(ORDINARY, "call(1, 0, 49)", "BAD");
        refused(ORDINARY, "call(1, 0, -1)", "BAD");
        refused(ORDINARY, "call(2, 1, -1)", "BAD");
        refused(ORDINARY, "call(6, 0, 0)", "BAD");
        refused(ORDINARY, "call(2, 7, 0)", "BAD");
    }

    private static void called() {
        d.says("For what QUARTER a WITNESS is CALLED for a CASE. BAD; NO: it does not NEED them.");
        witnesses("called(#, 0)");
        cases("called(0, #)");
        refused(ORDINARY, "called(1, 0)", "NO");
        refused(ORDINARY, "called(0, 2)", "NO");
        notRefused(ORDINARY, "called(0, 0)", "NO");
    }

    private static void plan() {
        d.says("All whom a CASE NEEDS are CALLED for THE BEST QUARTER: it. BAD.");
        cases("plan(#)");
    }

    private static void fate() {
        d.says("The FATE of a CASE is told: 0 FOLDED, 1 .. 20 how long it takes, -1 as if nothing was told");
        cases("fate(#, 2)");
        bounds(ORDINARY, "fate(1, #)", -1, 20, "BAD");
        bounds(ORDINARY, "fate(0, #)", -1, 20, "BAD");
    }

    private static void begins() {
        d.says("Of a CASE as THE DAY goes: what 0 .. 1 .. 2 .. BAD.");
        cases("begins(#, 0)");
        bounds(ORDINARY, "begins(1, #)", 0, 2, "BAD");
    }

    private static void waited() {
        d.says("What a WITNESS WAITED for a CASE as THE DAY goes .. BAD; NO: it does not NEED them.");
        witnesses("waited(#, 0)");
        cases("waited(0, #)");
        refused(ORDINARY, "waited(1, 0)", "NO");
        refused(ORDINARY, "waited(0, 2)", "NO");
        notRefused(ORDINARY, "waited(0, 0)", "NO");
    }

    private static void idle() {
        d.says("IDLE QUARTERS of a COURT as THE DAY goes, by cause 0, 1. BAD.");
        courts("idle(#, 0)");
        bounds(ORDINARY, "idle(0, #)", 0, 1, "BAD");
    }

    private static void pay() {
        d.says("PAY of a WITNESS. BAD.");
        witnesses("pay(#)");
    }

    private static void apart() {
        d.says("Two WITNESSES are APART (1) or not (0): what it was. BAD: no such ones, the same.");
        witnesses("apart(#, 4, 1)");
        witnesses("apart(4, #, 1)");
        witnesses("apart(#, 4, 0)");
        witnesses("apart(4, #, 0)");
        for (int w = 0; w < 6; w++) {
            refused(ORDINARY, "apart(" + w + ", " + w + ", 1)", "BAD");
            refused(ORDINARY, "apart(" + w + ", " + w + ", 0)", "BAD");
        }
        bounds(ORDINARY, "apart(2, 4, #)", 0, 1, "BAD");
        bounds(ORDINARY, "apart(0, 1, #)", 0, 1, "BAD");
    }

    private static void room() {
        d.says("The ROOM of a WITNESS by THE ROOMS. BAD; NO: there are no ROOMS that will do; NONE");
        witnesses("room(#)");
        for (int w = 0; w < 4; w++) {
            refused(WITHOUT_ROOMS, "room(" + w + ")", "NO");
        }
        refused(ORDINARY, "room(5)", "NONE");
        d.says("room: BAD stands ahead of NO, NO ahead of NONE");
        refused(WITHOUT_ROOMS, "room(5)", "BAD");
        refused(WITHOUT_ROOMS, "room(-1)", "BAD");
        refused(WITHOUT_ROOMS, "room(4)", "NO");
    }

    private static void move() {
        d.says("A CASE is MOVED: its place there. BAD; FULL: that LIST has six others.");
        cases("move(#, 2)");
        courts("move(3, #)");
        refused(SIX_IN_ONE_LIST, "move(6, 0)", "FULL");
        notRefused(SIX_IN_ONE_LIST, "move(6, 1)", "FULL");
        notRefused(SIX_IN_ONE_LIST, "move(0, 0)", "FULL");
        refused(FULL, "move(0, 1)", "FULL");
        refused(FULL, "move(11, 0)", "FULL");
        notRefused(FULL, "move(11, 1)", "FULL");
        notRefused(FULL, "move(11, 2)", "FULL");
        d.says("move: BAD stands ahead of FULL");
        refused(SIX_IN_ONE_LIST, "move(7, 0)", "BAD");
        refused(SIX_IN_ONE_LIST, "move(-1, 0)", "BAD");
        refused(FULL, "move(0, 3)", "BAD");
    }

    private static void notice() {
        d.says("Of NOTICE i: what 0 the WITNESS, 1 the CASE, 2 whether it was read (1, 0). BAD.");
        refused(EMPTY, "notice(0, 0)", "BAD");
        refused(EMPTY, "notice(-1, 0)", "BAD");
        for (int what = 0; what <= 2; what++) {
            bounds(ORDINARY, "notice(#, " + what + ")", 0, 4, "BAD");
            bounds(FULL, "notice(#, " + what + ")", 0, 59, "BAD");
        }
        bounds(ORDINARY, "notice(0, #)", 0, 2, "BAD");
        bounds(ORDINARY, "notice(4, #)", 0, 2, "BAD");
    }

    private static void read() {
        d.says("A WITNESS reads all their NOTICES: how many were not read yet. BAD.");
        witnesses("read(#)");
    }

    private static void sheet() {
        d.says("A SHEET has n places, all 0: n. BAD: sheet, n above 12; SIZE.");
        bounds(ORDINARY, "sheet(#, 3)", 0, 1, "BAD");
        for (House house : new House[] {EMPTY, ORDINARY}) {
            for (int s = 0; s < 2; s++) {
                notRefused(house, "sheet(" + s + ", 12)", "BAD");
                refused(house, "sheet(" + s + ", 13)", "BAD");
                refused(house, "sheet(" + s + ", " + Integer.MAX_VALUE + ")", "BAD");
                notRefused(house, "sheet(" + s + ", 0)", "SIZE");
                refused(house, "sheet(" + s + ", -1)", "SIZE");
                refused(house, "sheet(" + s + ", " + Integer.MIN_VALUE + ")", "SIZE");
            }
        }
        d.says("sheet: BAD stands ahead of SIZE");
        refused(ORDINARY, "sheet(2, -1)", "BAD");
        refused(EMPTY, "sheet(-1, -1)", "BAD");
    }

    private static void mark() {
        d.says("A place of a SHEET becomes v (as a byte): what it was. BAD: sheet; NOTHING; INDEX.");
        bounds(ORDINARY, "mark(#, 0, 7)", 0, 1, "BAD");
        bounds(ORDINARY, "mark(0, #, 7)", 0, 4, "INDEX");
        bounds(ORDINARY, "mark(1, #, 7)", 0, 8, "INDEX");
        bounds(FULL, "mark(1, #, 7)", 0, 11, "INDEX");
        refused(EMPTY, "mark(0, 0, 7)", "NOTHING");
        refused(EMPTY, "mark(1, 0, 7)", "NOTHING");
        refused(ONE_SHEET, "mark(1, 0, 7)", "NOTHING");
        notRefused(ONE_SHEET, "mark(0, 0, 7)", "NOTHING");
        d.says("mark: BAD stands ahead of NOTHING, NOTHING ahead of INDEX");
        refused(EMPTY, "mark(2, -1, 7)", "BAD");
        refused(ORDINARY, "mark(-1, 9, 7)", "BAD");
        refused(ONE_SHEET, "mark(1, -1, 7)", "NOTHING");
        refused(ONE_SHEET, "mark(1, 12, 7)", "NOTHING");
    }

    private static void copy() {
        d.says("So many places of a SHEET come to another one (or the same), as they were: many. BAD; NOTHING; INDEX.");
        bounds(ORDINARY, "copy(#, 0, 1, 0, 1)", 0, 1, "BAD");
        bounds(ORDINARY, "copy(0, 0, #, 0, 1)", 0, 1, "BAD");
        refused(EMPTY, "copy(0, 0, 0, 0, 0)", "NOTHING");
        refused(EMPTY, "copy(1, 0, 1, 0, 0)", "NOTHING");
        refused(ONE_SHEET, "copy(0, 0, 1, 0, 1)", "NOTHING");
        refused(ONE_SHEET, "copy(1, 0, 0, 0, 1)", "NOTHING");
        notRefused(ONE_SHEET, "copy(0, 0, 0, 1, 1)", "NOTHING");
        bounds(ORDINARY, "copy(0, #, 1, 0, 1)", 0, 4, "INDEX");
        bounds(ORDINARY, "copy(0, 0, 1, #, 1)", 0, 8, "INDEX");
        bounds(ORDINARY, "copy(1, #, 0, 0, 5)", 0, 4, "INDEX");
        bounds(ORDINARY, "copy(0, 0, 1, #, 5)", 0, 4, "INDEX");
        bounds(ORDINARY, "copy(1, #, 1, 0, 2)", 0, 7, "INDEX");
        bounds(ORDINARY, "copy(1, 0, 1, #, 2)", 0, 7, "INDEX");
        d.says("copy: BAD stands ahead of NOTHING, NOTHING ahead of INDEX");
        refused(ONE_SHEET, "copy(2, 0, 1, 0, 1)", "BAD");
        refused(ONE_SHEET, "copy(1, 0, 2, 0, 1)", "BAD");
        refused(ORDINARY, "copy(2, -1, 0, 0, 1)", "BAD");
        refused(ORDINARY, "copy(0, 0, -1, 99, 1)", "BAD");
        refused(ONE_SHEET, "copy(0, 3, 1, 0, 1)", "NOTHING");
        refused(ONE_SHEET, "copy(1, 0, 0, -1, 1)", "NOTHING");
        refused(ONE_SHEET, "copy(0, 0, 1, 0, -1)", "NOTHING");
    }

    /** The sheets have five and nine places. */
    private static void copyOfHowMany() {
        d.says("INDEX: there is no such place");
        bounds(ORDINARY, "copy(0, 0, 1, 0, #)", 0, 5, "INDEX");
        bounds(ORDINARY, "copy(1, 0, 0, 0, #)", 0, 5, "INDEX");
        bounds(ORDINARY, "copy(1, 0, 1, 0, #)", 0, 9, "INDEX");
        bounds(ORDINARY, "copy(0, 4, 1, 0, #)", 0, 1, "INDEX");
        bounds(ORDINARY, "copy(0, 0, 1, 8, #)", 0, 1, "INDEX");
        bounds(ORDINARY, "copy(0, 1, 0, 3, #)", 0, 2, "INDEX");
        bounds(ORDINARY, "copy(0, 3, 0, 1, #)", 0, 2, "INDEX");
        bounds(FULL, "copy(0, 0, 1, 0, #)", 0, 12, "INDEX");
        // a place and a number that add up to less than 0
        refused(ORDINARY, "copy(0, 1, 1, 1, " + Integer.MAX_VALUE + ")", "INDEX");
        refused(ORDINARY, "copy(0, " + Integer.MAX_VALUE + ", 1, 0, " + Integer.MAX_VALUE + ")", "INDEX");
        refused(ORDINARY, "copy(0, 0, 1, " + Integer.MAX_VALUE + ", 1)", "INDEX");
        refused(ORDINARY, "copy(0, 5, 1, 9, 1)", "INDEX");
        notRefused(ORDINARY, "copy(0, 5, 1, 9, 0)", "INDEX");
    }

    private static void take() {
        d.says("FOLDS become what a SHEET has .. BAD; NOTHING; NO: one of these is not 0 .. 100.");
        bounds(FULL, "take(#)", 0, 1, "BAD");
        refused(EMPTY, "take(0)", "NOTHING");
        refused(EMPTY, "take(1)", "NOTHING");
        refused(ONE_SHEET, "take(1)", "NOTHING");
        notRefused(ONE_SHEET, "take(0)", "NOTHING");
        refused(ORDINARY, "take(1)", "NO");
        notRefused(ORDINARY, "take(0)", "NO");
    }

    private static void count() {
        d.says("How many: 0 CASES .. 6 SHEETS that are not MISSING. BAD.");
        bounds(EMPTY, "count(#)", 0, 6, "BAD");
        bounds(ORDINARY, "count(#)", 0, 6, "BAD");
        bounds(FULL, "count(#)", 0, 6, "BAD");
    }
}
