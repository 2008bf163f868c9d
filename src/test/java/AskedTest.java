/** Promises 1 and 26 to 32: the day, kinds, asks and their traces, counts, status. */
public final class AskedTest {
    private static final Check CHECK = new Check("AskedTest");

    public static void main(String[] args) {
        aNewObject();
        theDay();
        kindsByDays();
        takenAs();
        asksOfEachKind();
        refusedAsksLeaveTheTrace();
        counting();
        statusOfCalls();
        CHECK.end();
    }

    private static void aNewObject() {
        VillageHalls x = new VillageHalls();
        for (int what = 0; what <= 8; what++) {
            CHECK.due("count(" + what + ")", 0, x.count(what));
        }
        CHECK.due("status()", 0, x.status());
        CHECK.due("fault()", 0, x.fault());
        CHECK.due("trace(0)", Check.NONE, x.trace(0));
        CHECK.due("day(5)", 0, x.day(5));
        for (int s = 0; s < 8; s++) {
            CHECK.due("drop(" + s + ")", Check.NULL, x.drop(s));
        }
        VillageHalls y = new VillageHalls();
        CHECK.due("another object has its own day", 0, y.day(0));
        CHECK.due("and its own status", 0, y.status());
    }

    private static void theDay() {
        VillageHalls x = new VillageHalls();
        CHECK.due("day(-1)", Check.BAD, x.day(-1));
        CHECK.due("day(365)", Check.BAD, x.day(365));
        CHECK.due("day(364)", 0, x.day(364));
        CHECK.due("day(365) again", Check.BAD, x.day(365));
        CHECK.due("day(3)", 364, x.day(3));
        CHECK.due("day(3) again", 3, x.day(3));
    }

    /** 0 FIRM from 50 on, 1 HELD from 60 on, 2 OUT from 60 on, 3 HELD from 40 on and GONE from 95 on. */
    private static VillageHalls four() {
        VillageHalls x = new VillageHalls();
        Check.rules(x, "hall 0 first party rate party 20 rate club 5;");
        Check.book(x, 0, 0, 100, 40, 48, 30, 1, 0, 50);
        Check.book(x, 0, 0, 100, 60, 64, 25, 2, 0, 60);
        Check.book(x, 0, 0, 100, 62, 66, 7, 4, 0, 60);
        Check.book(x, 0, 1, 99, 40, 48, 11, 2, 0, 40);
        x.cancel(3, 95);
        return x;
    }

    private static void kindsByDays() {
        VillageHalls x = four();
        int[][] kinds = {{39, 0, 0, 0, 0}, {40, 0, 0, 0, 1}, {50, 2, 0, 0, 1}, {60, 2, 1, 4, 1}, {94, 2, 1, 4, 1},
            {95, 2, 1, 4, 3}, {364, 2, 1, 4, 3}, {0, 0, 0, 0, 0}};
        for (int[] row : kinds) {
            x.day(row[0]);
            int[] howMany = new int[5];
            for (int k = 0; k < 4; k++) {
                CHECK.due("kind(" + k + ") on " + row[0], row[k + 1], x.kind(k));
                howMany[row[k + 1]]++;
            }
            CHECK.due("BOOKINGS", 4, x.count(1));
            CHECK.due("HELD", howMany[1] + howMany[2], x.count(2));
            CHECK.due("FIRM", howMany[2], x.count(3));
            CHECK.due("GONE", howMany[3], x.count(4));
            CHECK.due("OUT", howMany[4], x.count(5));
        }
        CHECK.due("kind(-1)", Check.BAD, x.kind(-1));
        CHECK.due("kind(4)", Check.BAD, x.kind(4));
    }

    private static void takenAs() {
        VillageHalls x = four();
        x.day(95);
        boolean[][] is = {{true, true, true, false, false}, {true, true, false, false, false},
            {true, false, false, false, true}, {true, false, false, true, false}};
        for (int k = 0; k < 4; k++) {
            for (int kind = 0; kind < 5; kind++) {
                CHECK.due("as(" + k + ", " + kind + ")", is[k][kind] ? x.told(k, 2) : Check.KIND, x.as(k, kind));
                CHECK.due("status()", is[k][kind] ? 0 : 3, x.status());
            }
        }
        CHECK.due("as(0, -1)", Check.BAD, x.as(0, -1));
        CHECK.due("as(0, 5)", Check.BAD, x.as(0, 5));
        CHECK.due("as(4, 0)", Check.BAD, x.as(4, 0));
        CHECK.due("as(-1, 0)", Check.BAD, x.as(-1, 0));
        CHECK.due("BAD leaves status", 3, x.status());
        x.day(0);
        CHECK.due("ahead of CAME it is a BOOKING", 100, x.as(0, 0));
        CHECK.due("and no OUT one", Check.KIND, x.as(0, 4));
        CHECK.due("nor a HELD one", Check.KIND, x.as(0, 1));
        CHECK.due("nor a GONE one", Check.KIND, x.as(3, 3));
    }

    private static void asked(VillageHalls x, int booking, int what, int answer, int... trace) {
        String name = "ask(" + booking + ", " + what + ")";
        CHECK.due(name, answer, x.ask(booking, what));
        for (int i = 0; i < 17; i++) {
            CHECK.due(name + " trace(" + i + ")", i < trace.length ? trace[i] : Check.NONE, x.trace(i));
        }
    }

    private static void asksOfEachKind() {
        VillageHalls x = four();
        asked(x, 0, 0, 30, 10);
        asked(x, 0, 1, 1, 20);
        x.day(95);
        int firm = 2 * (30 + 8 * 20);
        asked(x, 0, 0, firm, 12, 11, 10);
        asked(x, 0, 1, 1 + 100 + firm, 22, 21, 20, 12, 11, 10);
        asked(x, 1, 0, 25 + 4 * 5, 11, 10);
        asked(x, 1, 1, 2 + 100, 21, 20);
        asked(x, 2, 0, 7, 10);
        asked(x, 2, 1, 4 + 7, 23, 20, 10);
        asked(x, 3, 0, 11 - 2, 13, 10, 20);
        asked(x, 3, 1, 2, 20);
        x.day(94);
        asked(x, 3, 1, 2 + 99, 21, 20);
        asked(x, 3, 0, 11 + 20, 11, 10);
    }

    private static void refusedAsksLeaveTheTrace() {
        VillageHalls x = four();
        x.day(95);
        x.ask(0, 1);
        CHECK.due("ask(0, 2)", Check.BAD, x.ask(0, 2));
        CHECK.due("ask(0, -1)", Check.BAD, x.ask(0, -1));
        CHECK.due("ask(4, 0)", Check.BAD, x.ask(4, 0));
        CHECK.due("ask(-1, 0)", Check.BAD, x.ask(-1, 0));
        int[] trace = {22, 21, 20, 12, 11, 10};
        for (int i = 0; i < 6; i++) {
            CHECK.due("trace(" + i + ")", trace[i], x.trace(i));
        }
        CHECK.due("trace(-1)", Check.NONE, x.trace(-1));
        CHECK.due("trace(6)", Check.NONE, x.trace(6));
        CHECK.due("trace(16)", Check.NONE, x.trace(16));
        CHECK.due("trace(MIN)", Check.NONE, x.trace(Integer.MIN_VALUE));
        CHECK.due("trace(MAX)", Check.NONE, x.trace(Integer.MAX_VALUE));
    }

    private static void counting() {
        VillageHalls x = four();
        CHECK.due("count(-1)", Check.BAD, x.count(-1));
        CHECK.due("count(9)", Check.BAD, x.count(9));
        CHECK.due("SHEETS", 1, x.count(0));
        x.sheet(0, 0, 0);
        CHECK.due("SHEETS", 2, x.count(0));
        x.sheet(0, 1, 5);
        CHECK.due("one in place of another", 2, x.count(0));
        x.coin(0, 0, 0, 1);
        x.coin(3, 0, 0, 1);
        CHECK.due("COINS", 2, x.count(6));
        x.meeting(1, 0, 0, 0, Check.NONE);
        CHECK.due("MEETINGS", 1, x.count(7));
        x.feed(0, 5);
        CHECK.due("bytes", 5, x.count(8));
        x.rules();
        CHECK.due("bytes behind a fault", 0, x.count(8));
    }

    private static void statusOfCalls() {
        VillageHalls x = four();
        CHECK.due("status()", 0, x.status());
        x.drop(0);
        CHECK.due("NULL", 1, x.status());
        x.cancel(3, 95);
        x.coin(0, 0, 0, 0);
        x.feed(0, 1);
        x.rules();
        x.ask(0, 0);
        x.kind(0);
        x.told(0, 0);
        x.day(95);
        x.meeting(1, 0, 0, 0, Check.NONE);
        x.count(0);
        x.status();
        CHECK.due("calls without a SHEET leave it", 1, x.status());
        x.as(1, 2);
        CHECK.due("KIND", 3, x.status());
        x.set(7, 0, 0);
        CHECK.due("none", 0, x.status());
        x.set(7, 9, 0);
        CHECK.due("PLACE", 2, x.status());
        x.as(1, 1);
        CHECK.due("none of as()", 0, x.status());
        x.sheet(0, 0, -1);
        CHECK.due("SIZE", 4, x.status());
        x.copy(7, 0, 7, 0, 1);
        CHECK.due("none of copy()", 0, x.status());
        x.sheet(0, 0, 1);
        x.copy(7, 0, 0, 0, 1);
        CHECK.due("STORE", 5, x.status());
        x.drop(0);
        CHECK.due("none of drop()", 0, x.status());
        x.drop(0);
        x.sheet(0, 0, 1);
        CHECK.due("none of sheet()", 0, x.status());
    }
}
