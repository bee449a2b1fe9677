/** Promises 22 and 23: apart, room. */
public final class RoomsTest {
    private static final Due d = new Due();

    public static void main(String[] args) {
        pairs();
        roomsOfMany();
        goneBack();
        bothEndsCount();
        staysToTheEnd();
        noneWillDo();
        d.end("RoomsTest");
    }

    private static CourtHouse house(int... kinds) {
        CourtHouse x = new CourtHouse();
        x.newCase(0, 8, 0);
        for (int kind : kinds) {
            x.witness(kind, 0);
        }
        x.needs(0, (1 << kinds.length) - 1);
        return x;
    }

    private static void rooms(String text, CourtHouse x, long... due) {
        for (int w = 0; w < due.length; w++) {
            d.due(text + ": room(" + w + ")", x.room(w), due[w]);
        }
    }

    private static void pairs() {
        CourtHouse x = house(0, 0, 0);
        d.due("apart", x.apart(0, 2, 1), 0);
        d.due("apart, the other way", x.apart(2, 0, 1), 1);
        d.due("pairs", x.count(4), 1);
        d.due("no more, the other way", x.apart(2, 0, 0), 1);
        d.due("no more", x.apart(0, 2, 0), 0);
        d.due("pairs", x.count(4), 0);
        d.due("the same", x.apart(1, 1, 1), Due.BAD);
        d.due("the same", x.apart(1, 1, 0), Due.BAD);
        d.due("no such", x.apart(0, 3, 1), Due.BAD);
        d.due("no such", x.apart(3, 0, 1), Due.BAD);
        d.due("on 2", x.apart(0, 1, 2), Due.BAD);
        for (int wild : Due.WILD) {
            d.due("apart witness", x.apart(wild, 0, 1), Due.BAD);
            d.due("apart other", x.apart(0, wild, 1), Due.BAD);
            d.due("apart on", x.apart(0, 1, wild), Due.BAD);
            d.due("room", x.room(wild), Due.BAD);
        }
        d.due("pairs", x.count(4), 0);
        d.due("room of none", x.room(3), Due.BAD);
    }

    private static void roomsOfMany() {
        CourtHouse x = house(0, 1, 2, 3, 4, 4);
        rooms("all together but the afraid", x, 0, 0, 0, 0, 2, 2);
        x.apart(0, 1, 1);
        rooms("two apart", x, 0, 1, 0, 0, 2, 2);
        x.apart(0, 1, 0);
        x.apart(0, 2, 1);
        rooms("0 and 1 together, 2 not with 0", x, 0, 0, 1, 0, 2, 2);
        x.apart(0, 1, 1);
        x.apart(1, 2, 1);
        rooms("three apart", x, 0, 1, 2, 0, 2, 2);
        x.needs(0, 62);
        rooms("one in no room", x, Due.NONE, 0, 1, 0, 2, 2);
    }

    private static void goneBack() {
        CourtHouse x = house(0, 0, 4, 0);
        x.apart(0, 3, 1);
        x.apart(2, 3, 1);
        x.apart(1, 3, 1);
        rooms("3 from all", x, 0, 0, 2, 1);
        x.apart(0, 1, 1);
        rooms("1 leaves room 1 to 3", x, 0, 2, 2, 1);
        CourtHouse y = house(0, 4);
        y.apart(0, 1, 1);
        rooms("the afraid one in 2", y, 0, 2);
        CourtHouse z = house(0, 0, 0, 4);
        z.apart(0, 1, 1);
        z.apart(0, 2, 1);
        z.apart(1, 3, 1);
        z.apart(2, 3, 1);
        rooms("first row", z, 0, 1, 1, 2);
    }

    private static void bothEndsCount() {
        CourtHouse x = new CourtHouse();
        x.newCase(0, 5, 0);
        x.newCase(0, 1, 0);
        x.witness(0, 0);
        x.witness(0, 0);
        x.needs(0, 1);
        x.needs(1, 2);
        x.apart(0, 1, 1);
        rooms("0 leaves as it begins, 1 is there from 0", x, 0, 1);
        x.call(1, 1, 1);
        rooms("1 comes behind that", x, 0, 0);
        x.newCase(1, 1, 0);
        x.needs(2, 1);
        x.call(0, 2, 1);
        rooms("0 stays till 1", x, 0, 1);
        x.fate(2, 0);
        rooms("gone at 0", x, 0, 0);
        x.needs(2, 2);
        x.call(1, 2, 9);
        x.call(1, 1, 9);
        rooms("1 is called behind what was gone", x, 0, 0);
        x.call(0, 0, 9);
        rooms("both at 9", x, 0, 1);
    }

    private static void staysToTheEnd() {
        CourtHouse x = new CourtHouse();
        x.witness(0, 10);
        x.witness(0, 0);
        for (int i = 0; i < 12; i++) {
            x.newCase(i < 6 ? 0 : 1, 8, 0);
            x.fate(i, 20);
            x.needs(i, i == 11 ? 1 : 2);
            x.call(1, i, 20);
        }
        x.apart(0, 1, 1);
        d.due("the last but two never began", x.begins(9, 0), Due.NONE);
        d.due("the last never began", x.begins(11, 0), Due.NONE);
        rooms("0 is there from 10 to 200", x, 0, 1);
        x.move(11, 2);
        rooms("0 is there at 10 alone", x, 0, 0);
    }

    private static void noneWillDo() {
        CourtHouse x = house(0, 0, 0, 0, 0);
        x.needs(0, 15);
        for (int a = 0; a < 4; a++) {
            for (int b = a + 1; b < 4; b++) {
                x.apart(a, b, 1);
            }
        }
        rooms("four from each other", x, Due.NO, Due.NO, Due.NO, Due.NO, Due.NO);
        d.due("BAD ahead of NO", x.room(5), Due.BAD);
        x.apart(3, 1, 0);
        rooms("three are enough", x, 0, 1, 2, 1, Due.NONE);
        CourtHouse y = house(4, 4);
        y.apart(0, 1, 1);
        rooms("two afraid ones apart", y, Due.NO, Due.NO);
        y.call(0, 0, 1);
        rooms("both wait for the same case", y, Due.NO, Due.NO);
        y.needs(0, 1);
        rooms("one alone", y, 2, Due.NONE);
    }
}
