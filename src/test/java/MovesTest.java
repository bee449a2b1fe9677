/** Promises 24 to 26 and 31: move, notice, read, count. */
public final class MovesTest {
    private static final Due d = new Due();

    public static void main(String[] args) {
        moves();
        fullLists();
        noticesOnce();
        sixtyNotices();
        counts();
        d.end("MovesTest");
    }

    private static void lists(CourtHouse x, int court, long... due) {
        for (int place = 0; place < due.length; place++) {
            d.due("inList(" + court + ", " + place + ")", x.inList(court, place), due[place]);
            d.due("court of " + due[place], x.told((int) due[place], 0), court);
            d.due("place of " + due[place], x.told((int) due[place], 1), place);
        }
        d.due("behind the list", x.inList(court, due.length), Due.NONE);
    }

    private static void moves() {
        CourtHouse x = new CourtHouse();
        for (int i = 0; i < 4; i++) {
            x.newCase(0, 2, 0);
        }
        x.newCase(1, 2, 0);
        d.due("to its own list's end", x.move(1, 0), 3);
        lists(x, 0, 0, 2, 3, 1);
        d.due("it is at the end already", x.move(1, 0), 3);
        lists(x, 0, 0, 2, 3, 1);
        d.due("to another list", x.move(0, 1), 1);
        lists(x, 0, 2, 3, 1);
        lists(x, 1, 4, 0);
        d.due("to an empty one", x.move(3, 2), 0);
        lists(x, 0, 2, 1);
        lists(x, 2, 3);
        d.due("alone in its list", x.move(3, 2), 0);
        d.due("the day goes by the lists", x.begins(0, 0), 2);
        d.due("no notices: nobody is needed", x.count(2), 0);
        d.due("no court", x.move(0, 3), Due.BAD);
        d.due("no case", x.move(5, 0), Due.BAD);
        for (int wild : Due.WILD) {
            d.due("move case", x.move(wild, 0), Due.BAD);
            d.due("move court", x.move(0, wild), Due.BAD);
        }
    }

    private static void fullLists() {
        CourtHouse x = new CourtHouse();
        for (int i = 0; i < 6; i++) {
            x.newCase(0, 1, 0);
        }
        x.newCase(1, 1, 0);
        x.witness(0, 0);
        x.needs(6, 1);
        d.due("six others", x.move(6, 0), Due.FULL);
        d.due("no notice of that", x.count(2), 0);
        d.due("five others", x.move(0, 0), 5);
        lists(x, 0, 1, 2, 3, 4, 5, 0);
        d.due("one goes", x.move(3, 2), 0);
        d.due("one comes", x.move(6, 0), 5);
        lists(x, 0, 1, 2, 4, 5, 0, 6);
        d.due("a list is full again", x.newCase(0, 1, 0), Due.FULL);
        d.due("and another is not", x.newCase(1, 1, 0), 7);
    }

    private static void noticesOnce() {
        CourtHouse x = new CourtHouse();
        x.newCase(0, 1, 0);
        x.newCase(0, 1, 0);
        for (int i = 0; i < 3; i++) {
            x.witness(0, 0);
        }
        x.needs(0, 5);
        x.needs(1, 6);
        x.move(0, 1);
        x.move(0, 2);
        d.due("one each", x.count(2), 2);
        x.move(1, 1);
        d.due("one for each case", x.count(2), 4);
        long[][] due = {{0, 0}, {2, 0}, {1, 1}, {2, 1}};
        for (int i = 0; i < 4; i++) {
            d.due("notice witness", x.notice(i, 0), due[i][0]);
            d.due("notice case", x.notice(i, 1), due[i][1]);
            d.due("notice read", x.notice(i, 2), 0);
        }
        d.due("not read", x.count(3), 4);
        d.due("2 reads all of theirs", x.read(2), 2);
        d.due("again", x.read(2), 0);
        d.due("read", x.notice(1, 2), 1);
        d.due("read", x.notice(3, 2), 1);
        d.due("not theirs", x.notice(0, 2), 0);
        d.due("not read", x.count(3), 2);
        x.move(1, 1);
        d.due("one more for 2 alone", x.count(2), 5);
        d.due("for 2", x.notice(4, 0), 2);
        d.due("of 1", x.notice(4, 1), 1);
        x.needs(1, 0);
        x.move(1, 0);
        d.due("nobody is needed", x.count(2), 5);
        d.due("what came stays", x.read(1), 1);
        noticesRefuse(x);
    }

    private static void noticesRefuse(CourtHouse x) {
        d.due("notice 5", x.notice(5, 0), Due.BAD);
        d.due("what 3", x.notice(0, 3), Due.BAD);
        d.due("read 3", x.read(3), Due.BAD);
        for (int wild : Due.WILD) {
            d.due("notice i", x.notice(wild, 0), Due.BAD);
            d.due("notice what", x.notice(0, wild), Due.BAD);
            d.due("read", x.read(wild), Due.BAD);
        }
    }

    private static void sixtyNotices() {
        CourtHouse x = new CourtHouse();
        for (int i = 0; i < 9; i++) {
            x.witness(0, 0);
        }
        for (int i = 0; i < 8; i++) {
            x.newCase(i < 6 ? i % 2 : 2, 1, 0);
            x.needs(i, 511);
        }
        for (int i = 0; i < 6; i++) {
            x.move(i, 0);
        }
        d.due("54", x.count(2), 54);
        d.due("full list", x.move(6, 0), Due.FULL);
        d.due("moved all the same", x.move(6, 2), 1);
        d.due("60", x.count(2), 60);
        d.due("the last one", x.notice(59, 0), 5);
        d.due("moved without", x.move(7, 1), 0);
        d.due("60", x.count(2), 60);
        d.due("notice 60", x.notice(60, 0), Due.BAD);
        d.due("read", x.read(0), 7);
        d.due("read", x.read(8), 6);
        x.move(0, 0);
        d.due("60 for good", x.count(2), 60);
        d.due("not read", x.count(3), 60 - 13);
    }

    private static void counts() {
        CourtHouse x = new CourtHouse();
        x.newCase(0, 1, 0);
        x.newCase(0, 1, 0);
        x.newCase(0, 1, 0);
        x.witness(0, 0);
        x.witness(0, 0);
        x.needs(0, 3);
        x.move(0, 1);
        x.read(1);
        x.apart(0, 1, 1);
        x.fate(0, 0);
        x.fate(1, 1);
        x.fate(2, -1);
        x.sheet(1, 0);
        long[] due = {3, 2, 2, 1, 1, 2, 1};
        for (int what = 0; what < 7; what++) {
            d.due("count(" + what + ")", x.count(what), due[what]);
        }
        d.due("count(7)", x.count(7), Due.BAD);
        for (int wild : Due.WILD) {
            d.due("count what", x.count(wild), Due.BAD);
        }
        x.fate(0, -1);
        x.sheet(0, 12);
        x.sheet(0, 1);
        d.due("fates", x.count(5), 1);
        d.due("sheets", x.count(6), 2);
    }
}
