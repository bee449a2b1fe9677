import java.util.Arrays;

/**
 * A house of courts that keeps witnesses waiting as little as it can.
 * The words used here (case, list, quarter, fold, way, weight ..) are those of the document.
 * Every number that comes from outside is looked at in the public methods; the classes inside trust it.
 */
public final class CourtHouse {
    public static final long BAD = -9000000000000000001L, NO = -9000000000000000002L, FULL = -9000000000000000003L,
            NONE = -9000000000000000005L, NOTHING = -9000000000000000011L, INDEX = -9000000000000000013L,
            SIZE = -9000000000000000014L;

    private static final int COURTS = 3;
    private static final int PLACES = 6;
    private static final int CASES = 12;
    private static final int WITNESSES = 10;
    private static final int LAST_QUARTER = 48;
    private static final int DAY_END = 200;
    private static final int LONGEST_CASE = 8;
    private static final int LONGEST_FATE = 20;
    private static final int LONGEST_WAY = 12;
    private static final int PERCENT = 100;
    private static final int ROOMS = 3;
    private static final int NOTICES = 60;
    private static final int SHEETS = 2;
    private static final int SHEET_PLACES = 12;

    private static final int WITNESS = 0;
    private static final int OFFICER = 1;
    private static final int EXPERT = 2;
    private static final int CHILD = 3;
    private static final int AFRAID = 4;
    /** For how many a witness of each kind counts in a cost. */
    private static final int[] COUNTS_FOR = {1, 2, 1, 3, 3};

    private static final int WAIT = 0;
    private static final int IDLE = 1;
    private static final int LOST = 2;
    private static final int TRAVEL = 3;
    private static final int FEE = 4;
    private static final int RULES = 5;
    private static final int[] RULE_LEAST = {1, 0, 0, 0, 0};
    private static final int[] RULE_MOST = {20, 200, 100, 100, 100};

    private static final int NO_CASE = -1;
    private static final int NO_ROOM = -1;
    private static final int FOLDED = 0;
    private static final int NOT_TOLD = -1;
    private static final int NEVER = -1;
    private static final int MISSING = -1;

    private static final int LATE = 0;
    private static final int ELSEWHERE = 1;
    private static final int CAUSES = 2;
    private static final int NOT_HINDERED = -1;

    private final Docket docket = new Docket();
    private final People people = new People();
    private final Chances chances = new Chances();
    private final Day day = new Day();
    private final Rooms rooms = new Rooms();
    private final NoticeBook notices = new NoticeBook();
    private final Sheets sheets = new Sheets();
    private final int[] rules = {1, 4, 0, 0, 0};

    public CourtHouse() {
    }

    // ---- cases, witnesses

    public long newCase(int court, int length, int fold) {
        if (!isCourt(court) || !isWithin(length, 1, LONGEST_CASE) || !isWithin(fold, 0, PERCENT)) {
            return BAD;
        }
        if (docket.size >= CASES || docket.listSize[court] >= PLACES) {
            return FULL;
        }
        return docket.enter(court, length, fold);
    }

    public long witness(int kind, int way) {
        if (!isWithin(kind, WITNESS, AFRAID) || !isWithin(way, 0, LONGEST_WAY)) {
            return BAD;
        }
        if (people.size >= WITNESSES) {
            return FULL;
        }
        return people.enter(kind, way);
    }

    public long isOf(int witness, int kind) {
        if (!people.has(witness) || !isWithin(kind, WITNESS, AFRAID)) {
            return BAD;
        }
        int own = people.kindOf[witness];
        boolean childToo = kind == CHILD && own == AFRAID;
        return asLong(kind == WITNESS || kind == own || childToo);
    }

    public long needs(int aCase, int set) {
        if (!docket.has(aCase) || set < 0 || set >> people.size != 0) {
            return BAD;
        }
        int was = docket.needed[aCase];
        for (int w = 0; w < people.size; w++) {
            if (holds(set, w) && !holds(was, w)) {
                docket.callFor(aCase, w, people.wayOf[w]);
            }
        }
        docket.needed[aCase] = set;
        return was;
    }

    public long fold(int aCase, int v) {
        if (!docket.has(aCase) || !isWithin(v, 0, PERCENT)) {
            return BAD;
        }
        int was = docket.foldOf[aCase];
        docket.foldOf[aCase] = v;
        return was;
    }

    public long told(int aCase, int what) {
        if (!docket.has(aCase)) {
            return BAD;
        }
        switch (what) {
            case 0:
                return docket.courtOf[aCase];
            case 1:
                return docket.placeOf(aCase);
            case 2:
                return docket.lengthOf[aCase];
            case 3:
                return docket.foldOf[aCase];
            case 4:
                return docket.needed[aCase];
            case 5:
                return docket.fateOf[aCase] == NOT_TOLD ? NONE : docket.fateOf[aCase];
            default:
                return BAD;
        }
    }

    public long inList(int court, int place) {
        if (!isCourt(court) || place < 0) {
            return BAD;
        }
        int aCase = docket.caseAt(court, place);
        return aCase == NO_CASE ? NONE : aCase;
    }

    public long rule(int which, int v) {
        if (!isWithin(which, 0, RULES - 1) || !isWithin(v, RULE_LEAST[which], RULE_MOST[which])) {
            return BAD;
        }
        int was = rules[which];
        rules[which] = v;
        return was;
    }

    // ---- chances

    public long weight(int aCase, int quarter) {
        if (!docket.has(aCase) || !isQuarter(quarter)) {
            return BAD;
        }
        chances.weigh(docket, aCase);
        return chances.weightAt[quarter];
    }

    public long cost(int aCase, int quarter) {
        if (!docket.has(aCase) || !isQuarter(quarter)) {
            return BAD;
        }
        chances.weigh(docket, aCase);
        return chances.costAt(quarter, waitPrice(aCase), rules[IDLE]);
    }

    public long best(int aCase) {
        if (!docket.has(aCase)) {
            return BAD;
        }
        return bestQuarter(aCase);
    }

    // ---- calls

    public long call(int witness, int aCase, int quarter) {
        if (!people.has(witness) || !docket.has(aCase) || !isQuarter(quarter)) {
            return BAD;
        }
        if (!docket.hasNeedOf(aCase, witness) || quarter < people.wayOf[witness]) {
            return NO;
        }
        int was = docket.quarterFor(aCase, witness);
        docket.callFor(aCase, witness, quarter);
        return was;
    }

    public long called(int witness, int aCase) {
        if (!people.has(witness) || !docket.has(aCase)) {
            return BAD;
        }
        return docket.hasNeedOf(aCase, witness) ? docket.quarterFor(aCase, witness) : NO;
    }

    public long plan(int aCase) {
        if (!docket.has(aCase)) {
            return BAD;
        }
        int quarter = bestQuarter(aCase);
        for (int w = 0; w < people.size; w++) {
            if (docket.hasNeedOf(aCase, w)) {
                docket.callFor(aCase, w, quarter);
            }
        }
        return quarter;
    }

    // ---- the day

    public long fate(int aCase, int v) {
        if (!docket.has(aCase) || !isWithin(v, NOT_TOLD, LONGEST_FATE)) {
            return BAD;
        }
        int was = docket.fateOf[aCase];
        docket.fateOf[aCase] = v;
        return was;
    }

    public long begins(int aCase, int what) {
        if (!docket.has(aCase) || !isWithin(what, 0, 2)) {
            return BAD;
        }
        day.run(docket);
        if (day.beganAt[aCase] == NEVER) {
            return NONE;
        }
        if (what == 2) {
            return asLong(docket.isFolded(aCase));
        }
        return what == 0 ? day.beganAt[aCase] : day.endsAt[aCase];
    }

    public long waited(int witness, int aCase) {
        if (!people.has(witness) || !docket.has(aCase)) {
            return BAD;
        }
        if (!docket.hasNeedOf(aCase, witness)) {
            return NO;
        }
        day.run(docket);
        return day.waitFor(docket, witness, aCase);
    }

    public long idle(int court, int cause) {
        if (!isCourt(court) || !isWithin(cause, 0, CAUSES - 1)) {
            return BAD;
        }
        day.run(docket);
        return day.idleOf[court * CAUSES + cause];
    }

    public long waits() {
        day.run(docket);
        long sum = 0;
        for (int w = 0; w < people.size; w++) {
            sum += day.waitOf(docket, w);
        }
        return sum;
    }

    public long pay(int witness) {
        if (!people.has(witness)) {
            return BAD;
        }
        int kind = people.kindOf[witness];
        if (kind == OFFICER || !docket.isCalled(witness)) {
            return 0;
        }
        long journey = 2L * people.wayOf[witness] * rules[TRAVEL];
        if (kind == CHILD || kind == AFRAID) {
            return journey;
        }
        day.run(docket);
        long hours = day.waitOf(docket, witness) / 4;
        long fees = kind == EXPERT ? (long) day.hearingsOf(docket, witness) * rules[FEE] : 0;
        return hours * rules[LOST] + journey + fees;
    }

    // ---- apart

    public long apart(int witness, int other, int on) {
        if (!people.has(witness) || !people.has(other) || witness == other || !isWithin(on, 0, 1)) {
            return BAD;
        }
        boolean was = people.areApart(witness, other);
        people.setApart(witness, other, on == 1);
        return asLong(was);
    }

    public long room(int witness) {
        if (!people.has(witness)) {
            return BAD;
        }
        day.run(docket);
        if (!rooms.give(people, docket, day)) {
            return NO;
        }
        return rooms.roomOf[witness] == NO_ROOM ? NONE : rooms.roomOf[witness];
    }

    // ---- moved lists, sheets

    public long move(int aCase, int court) {
        if (!docket.has(aCase) || !isCourt(court)) {
            return BAD;
        }
        if (docket.courtOf[aCase] != court && docket.listSize[court] >= PLACES) {
            return FULL;
        }
        docket.leaveList(aCase);
        docket.joinList(aCase, court);
        for (int w = 0; w < people.size; w++) {
            if (docket.hasNeedOf(aCase, w)) {
                notices.send(w, aCase);
            }
        }
        return docket.placeOf(aCase);
    }

    public long notice(int i, int what) {
        if (!isWithin(i, 0, notices.size - 1)) {
            return BAD;
        }
        switch (what) {
            case 0:
                return notices.witnessOf[i];
            case 1:
                return notices.caseOf[i];
            case 2:
                return asLong(notices.wasRead[i]);
            default:
                return BAD;
        }
    }

    public long read(int witness) {
        if (!people.has(witness)) {
            return BAD;
        }
        return notices.readAll(witness);
    }

    public long sheet(int s, int n) {
        if (!isSheet(s) || n > SHEET_PLACES) {
            return BAD;
        }
        if (n < 0) {
            return SIZE;
        }
        sheets.layOut(s, n);
        return n;
    }

    public long mark(int s, int place, int v) {
        if (!isSheet(s)) {
            return BAD;
        }
        if (sheets.isMissing(s)) {
            return NOTHING;
        }
        if (!sheets.hasRun(s, place, 1)) {
            return INDEX;
        }
        int was = sheets.valueAt(s, place);
        sheets.put(s, place, (byte) v);
        return was;
    }

    public long copy(int from, int place, int to, int at, int many) {
        if (!isSheet(from) || !isSheet(to)) {
            return BAD;
        }
        if (sheets.isMissing(from) || sheets.isMissing(to)) {
            return NOTHING;
        }
        if (!sheets.hasRun(from, place, many) || !sheets.hasRun(to, at, many)) {
            return INDEX;
        }
        sheets.copyRun(from, place, to, at, many);
        return many;
    }

    public long take(int s) {
        if (!isSheet(s)) {
            return BAD;
        }
        if (sheets.isMissing(s)) {
            return NOTHING;
        }
        int many = Math.min(sheets.sizeOf[s], docket.size);
        for (int i = 0; i < many; i++) {
            if (!isWithin(sheets.valueAt(s, i), 0, PERCENT)) {
                return NO;
            }
        }
        for (int i = 0; i < many; i++) {
            docket.foldOf[i] = sheets.valueAt(s, i);
        }
        return many;
    }

    public long count(int what) {
        switch (what) {
            case 0:
                return docket.size;
            case 1:
                return people.size;
            case 2:
                return notices.size;
            case 3:
                return notices.unread();
            case 4:
                return people.pairsApart();
            case 5:
                return docket.fatesTold();
            case 6:
                return sheets.present();
            default:
                return BAD;
        }
    }

    // ---- what the calls above share

    private static boolean isWithin(int v, int least, int most) {
        return v >= least && v <= most;
    }

    private static boolean isCourt(int court) {
        return isWithin(court, 0, COURTS - 1);
    }

    private static boolean isQuarter(int quarter) {
        return isWithin(quarter, 0, LAST_QUARTER);
    }

    private static boolean isSheet(int s) {
        return isWithin(s, 0, SHEETS - 1);
    }

    private static boolean holds(int set, int witness) {
        return (set >> witness & 1) != 0;
    }

    private static long asLong(boolean yes) {
        return yes ? 1 : 0;
    }

    /** What one quarter of waiting costs, all whom the case needs together. */
    private long waitPrice(int aCase) {
        int all = 0;
        for (int w = 0; w < people.size; w++) {
            if (docket.hasNeedOf(aCase, w)) {
                all += COUNTS_FOR[people.kindOf[w]];
            }
        }
        return (long) all * rules[WAIT];
    }

    private int greatestWay(int aCase) {
        int greatest = 0;
        for (int w = 0; w < people.size; w++) {
            if (docket.hasNeedOf(aCase, w)) {
                greatest = Math.max(greatest, people.wayOf[w]);
            }
        }
        return greatest;
    }

    private int bestQuarter(int aCase) {
        chances.weigh(docket, aCase);
        return chances.cheapestFrom(greatestWay(aCase), waitPrice(aCase), rules[IDLE]);
    }

    /** The cases, and the lists of the courts in which they stand. */
    private static final class Docket {
        private final int[] courtOf = new int[CASES];
        private final int[] lengthOf = new int[CASES];
        private final int[] foldOf = new int[CASES];
        private final int[] needed = new int[CASES];
        private final int[] fateOf = new int[CASES];
        private final int[] calledFor = new int[CASES * WITNESSES];
        private final int[] listed = new int[COURTS * PLACES];
        private final int[] listSize = new int[COURTS];
        private int size;

        private boolean has(int aCase) {
            return aCase >= 0 && aCase < size;
        }

        private int enter(int court, int length, int fold) {
            int aCase = size;
            size++;
            lengthOf[aCase] = length;
            foldOf[aCase] = fold;
            fateOf[aCase] = NOT_TOLD;
            joinList(aCase, court);
            return aCase;
        }

        private int caseAt(int court, int place) {
            return place >= 0 && place < listSize[court] ? listed[court * PLACES + place] : NO_CASE;
        }

        private int placeOf(int aCase) {
            int court = courtOf[aCase];
            int place = 0;
            while (place < listSize[court] && caseAt(court, place) != aCase) {
                place++;
            }
            return place;
        }

        private void joinList(int aCase, int court) {
            if (listSize[court] < PLACES) {
                listed[court * PLACES + listSize[court]] = aCase;
                listSize[court]++;
                courtOf[aCase] = court;
            }
        }

        private void leaveList(int aCase) {
            int court = courtOf[aCase];
            for (int place = placeOf(aCase) + 1; place < listSize[court]; place++) {
                listed[court * PLACES + place - 1] = listed[court * PLACES + place];
            }
            listSize[court]--;
        }

        private boolean hasNeedOf(int aCase, int witness) {
            return holds(needed[aCase], witness);
        }

        private boolean isCalled(int witness) {
            for (int c = 0; c < size; c++) {
                if (hasNeedOf(c, witness)) {
                    return true;
                }
            }
            return false;
        }

        private int quarterFor(int aCase, int witness) {
            return calledFor[aCase * WITNESSES + witness];
        }

        private void callFor(int aCase, int witness, int quarter) {
            calledFor[aCase * WITNESSES + witness] = quarter;
        }

        private boolean isFolded(int aCase) {
            return fateOf[aCase] == FOLDED;
        }

        private int takesQuarters(int aCase) {
            return fateOf[aCase] == NOT_TOLD ? lengthOf[aCase] : fateOf[aCase];
        }

        private int fatesTold() {
            int many = 0;
            for (int c = 0; c < size; c++) {
                if (fateOf[c] != NOT_TOLD) {
                    many++;
                }
            }
            return many;
        }
    }

    /** The witnesses, and who of them are apart. */
    private static final class People {
        private final int[] kindOf = new int[WITNESSES];
        private final int[] wayOf = new int[WITNESSES];
        private final int[] apartFrom = new int[WITNESSES];
        private int size;

        private boolean has(int witness) {
            return witness >= 0 && witness < size;
        }

        private int enter(int kind, int way) {
            int witness = size;
            size++;
            kindOf[witness] = kind;
            wayOf[witness] = way;
            return witness;
        }

        private boolean areApart(int witness, int other) {
            return holds(apartFrom[witness], other);
        }

        private void setApart(int witness, int other, boolean on) {
            if (areApart(witness, other) != on) {
                apartFrom[witness] ^= 1 << other;
                apartFrom[other] ^= 1 << witness;
            }
        }

        private int pairsApart() {
            int both = 0;
            for (int w = 0; w < size; w++) {
                both += Integer.bitCount(apartFrom[w]);
            }
            return both / 2;
        }
    }

    /** At which quarters the case that was weighed last may begin, and what calling for one costs. */
    private static final class Chances {
        private final long[] weightAt = new long[LAST_QUARTER + 1];

        private void weigh(Docket docket, int aCase) {
            Arrays.fill(weightAt, 0);
            weightAt[0] = 1;
            int court = docket.courtOf[aCase];
            int ahead = docket.placeOf(aCase);
            for (int place = 0; place < ahead; place++) {
                int other = docket.caseAt(court, place);
                if (other != NO_CASE) {
                    putAhead(docket.lengthOf[other], docket.foldOf[other]);
                }
            }
        }

        /** From the last quarter down, so that each weight that is read is still that of the cases before. */
        private void putAhead(int length, int fold) {
            for (int t = LAST_QUARTER; t >= 0; t--) {
                long heard = t >= length ? weightAt[t - length] : 0;
                weightAt[t] = weightAt[t] * fold + heard * (PERCENT - fold);
            }
        }

        private long costAt(int quarter, long waitPrice, long idlePrice) {
            long sum = 0;
            for (int t = 0; t <= LAST_QUARTER; t++) {
                long price = t > quarter ? (t - quarter) * waitPrice : (quarter - t) * idlePrice;
                sum += weightAt[t] * price;
            }
            return sum;
        }

        private int cheapestFrom(int first, long waitPrice, long idlePrice) {
            int cheapest = first;
            long least = costAt(first, waitPrice, idlePrice);
            for (int quarter = first + 1; quarter <= LAST_QUARTER; quarter++) {
                long price = costAt(quarter, waitPrice, idlePrice);
                if (price < least) {
                    least = price;
                    cheapest = quarter;
                }
            }
            return cheapest;
        }
    }

    /** The day as it goes by what is told now; each question runs it anew. */
    private static final class Day {
        /** When a case began or, folded, was gone. */
        private final int[] beganAt = new int[CASES];
        private final int[] endsAt = new int[CASES];
        private final int[] idleOf = new int[COURTS * CAUSES];
        private final int[] nextPlace = new int[COURTS];
        private final int[] courtFreeAt = new int[COURTS];
        private final int[] witnessFreeAt = new int[WITNESSES];
        private int open;

        private void run(Docket docket) {
            Arrays.fill(beganAt, NEVER);
            Arrays.fill(endsAt, NEVER);
            Arrays.fill(idleOf, 0);
            Arrays.fill(nextPlace, 0);
            Arrays.fill(courtFreeAt, 0);
            Arrays.fill(witnessFreeAt, 0);
            open = docket.size;
            for (int t = 0; t < DAY_END && open > 0; t++) {
                for (int court = 0; court < COURTS; court++) {
                    passQuarter(docket, court, t);
                }
            }
        }

        private void passQuarter(Docket docket, int court, int t) {
            if (t < courtFreeAt[court]) {
                return;
            }
            int aCase = nextNotFolded(docket, court, t);
            if (aCase == NO_CASE) {
                return;
            }
            int cause = hindrance(docket, aCase, t);
            if (cause == NOT_HINDERED) {
                begin(docket, aCase, t);
            } else {
                idleOf[court * CAUSES + cause]++;
            }
        }

        private int nextNotFolded(Docket docket, int court, int t) {
            for (int place = nextPlace[court]; place < docket.listSize[court]; place++) {
                int aCase = docket.caseAt(court, place);
                if (aCase == NO_CASE || !docket.isFolded(aCase)) {
                    return aCase;
                }
                close(aCase, court, t, t);
            }
            return NO_CASE;
        }

        private int hindrance(Docket docket, int aCase, int t) {
            int cause = NOT_HINDERED;
            for (int w = 0; w < WITNESSES; w++) {
                if (docket.hasNeedOf(aCase, w)) {
                    if (docket.quarterFor(aCase, w) > t) {
                        return LATE;
                    }
                    if (witnessFreeAt[w] > t) {
                        cause = ELSEWHERE;
                    }
                }
            }
            return cause;
        }

        private void begin(Docket docket, int aCase, int t) {
            int court = docket.courtOf[aCase];
            int end = t + docket.takesQuarters(aCase);
            close(aCase, court, t, end);
            courtFreeAt[court] = end;
            for (int w = 0; w < WITNESSES; w++) {
                if (docket.hasNeedOf(aCase, w)) {
                    witnessFreeAt[w] = end;
                }
            }
        }

        private void close(int aCase, int court, int began, int ends) {
            beganAt[aCase] = began;
            endsAt[aCase] = ends;
            nextPlace[court]++;
            open--;
        }

        /** Cases that need the same witness never go on at once, so what they take of a wait just adds up. */
        private int waitFor(Docket docket, int witness, int aCase) {
            int from = docket.quarterFor(aCase, witness);
            int to = beganAt[aCase] == NEVER ? DAY_END : beganAt[aCase];
            if (to <= from) {
                return 0;
            }
            int wait = to - from;
            for (int c = 0; c < docket.size; c++) {
                if (c != aCase && beganAt[c] != NEVER && docket.hasNeedOf(c, witness)) {
                    wait -= Math.max(0, Math.min(to, endsAt[c]) - Math.max(from, beganAt[c]));
                }
            }
            return wait;
        }

        private int waitOf(Docket docket, int witness) {
            int sum = 0;
            for (int c = 0; c < docket.size; c++) {
                if (docket.hasNeedOf(c, witness)) {
                    sum += waitFor(docket, witness, c);
                }
            }
            return sum;
        }

        /** How many cases that need the witness began; those that folded did not. */
        private int hearingsOf(Docket docket, int witness) {
            int many = 0;
            for (int c = 0; c < docket.size; c++) {
                if (docket.hasNeedOf(c, witness) && beganAt[c] != NEVER && !docket.isFolded(c)) {
                    many++;
                }
            }
            return many;
        }
    }

    /** The first row of rooms in which nobody meets one from whom they are apart. */
    private static final class Rooms {
        private final int[] roomOf = new int[WITNESSES];
        private final int[] from = new int[WITNESSES];
        /** The last quarter in the room; NEVER, if the witness is called for no case and so in no room. */
        private final int[] until = new int[WITNESSES];
        /** Of each witness the bits of those with lower numbers with whom they may not share a room. */
        private final int[] foes = new int[WITNESSES];
        private final int[] inRoom = new int[ROOMS];

        private boolean give(People people, Docket docket, Day day) {
            Arrays.fill(roomOf, NO_ROOM);
            Arrays.fill(inRoom, 0);
            for (int w = 0; w < people.size; w++) {
                measureStay(docket, day, w);
                findFoes(people, w);
            }
            return settle(this, people, 0);
        }

        private void measureStay(Docket docket, Day day, int witness) {
            int first = DAY_END;
            int last = NEVER;
            for (int c = 0; c < docket.size; c++) {
                if (docket.hasNeedOf(c, witness)) {
                    first = Math.min(first, docket.quarterFor(c, witness));
                    last = Math.max(last, day.beganAt[c] == NEVER ? DAY_END : day.beganAt[c]);
                }
            }
            from[witness] = first;
            until[witness] = last == NEVER ? NEVER : Math.max(first, last);
        }

        private void findFoes(People people, int witness) {
            foes[witness] = 0;
            for (int w = 0; w < witness; w++) {
                boolean meet = from[w] <= until[witness] && from[witness] <= until[w];
                if (meet && people.areApart(w, witness)) {
                    foes[witness] |= 1 << w;
                }
            }
        }

        /** Goes one deeper for each witness, ten at most; the least room is tried first, so the first row is found. */
        private static boolean settle(Rooms rooms, People people, int witness) {
            if (witness >= people.size) {
                return true;
            }
            if (rooms.until[witness] == NEVER) {
                return settle(rooms, people, witness + 1);
            }
            int least = people.kindOf[witness] == AFRAID ? ROOMS - 1 : 0;
            for (int room = least; room < ROOMS; room++) {
                if (rooms.isFree(room, witness)) {
                    rooms.enter(room, witness);
                    if (settle(rooms, people, witness + 1)) {
                        return true;
                    }
                    rooms.leave(room, witness);
                }
            }
            return false;
        }

        private boolean isFree(int room, int witness) {
            return (inRoom[room] & foes[witness]) == 0;
        }

        private void enter(int room, int witness) {
            roomOf[witness] = room;
            inRoom[room] |= 1 << witness;
        }

        private void leave(int room, int witness) {
            roomOf[witness] = NO_ROOM;
            inRoom[room] &= ~(1 << witness);
        }
    }

    /** The notices of moved cases, as they came. */
    private static final class NoticeBook {
        private final int[] witnessOf = new int[NOTICES];
        private final int[] caseOf = new int[NOTICES];
        private final boolean[] wasRead = new boolean[NOTICES];
        private int size;

        private void send(int witness, int aCase) {
            if (size < NOTICES && !isPending(witness, aCase)) {
                witnessOf[size] = witness;
                caseOf[size] = aCase;
                size++;
            }
        }

        private boolean isPending(int witness, int aCase) {
            for (int i = 0; i < size; i++) {
                if (witnessOf[i] == witness && caseOf[i] == aCase && !wasRead[i]) {
                    return true;
                }
            }
            return false;
        }

        private int readAll(int witness) {
            int many = 0;
            for (int i = 0; i < size; i++) {
                if (witnessOf[i] == witness && !wasRead[i]) {
                    wasRead[i] = true;
                    many++;
                }
            }
            return many;
        }

        private int unread() {
            int many = 0;
            for (int i = 0; i < size; i++) {
                if (!wasRead[i]) {
                    many++;
                }
            }
            return many;
        }
    }

    /** The sheets, one behind the other in one row of bytes. */
    private static final class Sheets {
        private final byte[] row = new byte[SHEETS * SHEET_PLACES];
        private final int[] sizeOf = {MISSING, MISSING};

        private boolean isMissing(int s) {
            return sizeOf[s] == MISSING;
        }

        private void layOut(int s, int n) {
            for (int place = 0; place < n; place++) {
                row[s * SHEET_PLACES + place] = 0;
            }
            sizeOf[s] = n;
        }

        /** Whether a sheet has so many places from one on; none at all may stand right behind its last one. */
        private boolean hasRun(int s, int place, int many) {
            return place >= 0 && many >= 0 && place <= sizeOf[s] && many <= sizeOf[s] - place;
        }

        private int valueAt(int s, int place) {
            return row[s * SHEET_PLACES + place];
        }

        private void put(int s, int place, byte v) {
            row[s * SHEET_PLACES + place] = v;
        }

        /** arraycopy reads all before it writes, so a sheet may be copied over itself. */
        private void copyRun(int from, int place, int to, int at, int many) {
            System.arraycopy(row, from * SHEET_PLACES + place, row, to * SHEET_PLACES + at, many);
        }

        private int present() {
            int many = 0;
            for (int s = 0; s < SHEETS; s++) {
                if (!isMissing(s)) {
                    many++;
                }
            }
            return many;
        }
    }
}
