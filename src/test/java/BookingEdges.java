/** Promises 10 to 13: booking, cancelling, what a booking tells, its price, and clashes. */
final class BookingEdges extends Edges {
    private static final int[] GOOD = {1, 1, 100, 40, 48, 20, 2, 1, 90};

    BookingEdges(Check check, Document document) {
        super(check, document);
    }

    @Override
    void all() {
        sixteenAtMost();
        hallsAndFloors();
        quartersOfABooking();
        peopleUsesLicences();
        daysOfABooking();
        nineItems();
        refusedBookings();
        daysOfCancelling();
        cancelled();
        refusedCancels();
        whatABookingTells();
        prices();
        forfeits();
        cutTowardsZero();
        refusedTold();
        clashesInTime();
        clashesBySetup();
        clashesInPlace();
        whetherTheyClash();
        refusedClashes();
    }

    private void item(int item, int value, boolean good) {
        VillageHalls x = new VillageHalls();
        int[] items = GOOD.clone();
        items[item] = value;
        due("item " + item + " of " + value, good ? 0 : BAD, book(x, items));
        due("BOOKINGS with item " + item + " of " + value, good ? 1 : 0, x.count(1));
    }

    private void items(int item, int least, int greatest) {
        item(item, least, true);
        item(item, greatest, true);
        item(item, least - 1, false);
        item(item, greatest + 1, false);
        item(item, MIN, false);
        item(item, MAX, false);
    }

    private void sixteenAtMost() {
        holds(10, "BOOKINGS 0 .. 15 (16 at most), as they are told:");
        VillageHalls x = new VillageHalls();
        bad("booking 0 of none", x.told(0, 0));
        for (int k = 0; k < 16; k++) {
            due("number " + k, k, book(x, k % 4, k % 2, 100 + k, 0, 96, 1, 0, 0, 0));
            due("its day", 100 + k, x.told(k, 2));
            bad("the next", x.told(k + 1, 2));
        }
        due("the 17th", FULL, x.book(7, 0));
        due("BOOKINGS", 16, x.count(1));
        bad("told(16, 2)", x.told(16, 2));
        due("number 15 stays", 115, x.told(15, 2));
        x.cancel(3, 50);
        due("a CANCELLED one makes no room", FULL, x.book(7, 0));
    }

    private void hallsAndFloors() {
        holds(10, "a HALL, a FLOOR, a day,");
        items(0, 0, 3);
        items(1, 0, 1);
        items(2, 90, 364);
    }

    private void quartersOfABooking() {
        holds(10, "from a QUARTER to a later one,");
        items(3, 0, 47);
        items(4, 41, 96);
        int[][] spans = {{0, 1, 1}, {95, 96, 1}, {0, 96, 1}, {0, 0, 0}, {96, 96, 0}, {96, 97, 0}, {96, 0, 0},
            {-1, 0, 0}, {-1, 1, 0}, {0, 97, 0}, {48, 47, 0}, {MIN, MAX, 0}, {MAX, MIN, 0}};
        for (int[] s : spans) {
            VillageHalls x = new VillageHalls();
            due("from " + s[0] + " to " + s[1], s[2] == 1 ? 0 : BAD, book(x, 0, 0, 5, s[0], s[1], 1, 0, 0, 0));
        }
    }

    private void peopleUsesLicences() {
        holds(10, "people (1 to 999), a USE, whether it needs a LICENCE (1, 0),");
        items(5, 1, 999);
        items(6, 0, 4);
        items(7, 0, 1);
    }

    private void daysOfABooking() {
        holds(10, "CAME (a day, the day it is for or ahead).");
        items(8, 0, 100);
        for (int day : new int[] {0, 1, 364}) {
            VillageHalls x = new VillageHalls();
            due("CAME on its day " + day, 0, book(x, 0, 0, day, 0, 1, 1, 0, 0, day));
            due("CAME on day 0", 1, book(x, 0, 0, day, 0, 1, 1, 0, 0, 0));
            bad("CAME a day later", book(x, 0, 0, day, 0, 1, 1, 0, 0, day + 1));
            bad("CAME ahead of day 0", book(x, 0, 0, day, 0, 1, 1, 0, 0, -1));
        }
    }

    private void nineItems() {
        holds(10, "A BOOKING, nine ITEMS of a SHEET from i on (HALL, FLOOR, day, from, to, people, USE, LICENCE, "
            + "CAME): its number.");
        for (int i : new int[] {0, 1, 51}) {
            VillageHalls x = new VillageHalls();
            x.sheet(3, 2, 60);
            for (int k = 0; k < 9; k++) {
                x.set(3, i + k, GOOD[k]);
            }
            due("book(3, " + i + ")", 0, x.book(3, i));
            due("and again", 1, x.book(3, i));
            for (int k = 0; k < 9; k++) {
                due("item " + k, GOOD[k], x.told(0, k));
            }
            due("the SHEET stays", 60, x.drop(3));
            due("so does the BOOKING", 20, x.told(1, 5));
        }
    }

    private void refusedBookings() {
        holds(10, "BAD: SHEET; FULL: 16; NULL; PLACE; then BAD: an ITEM.");
        VillageHalls x = new VillageHalls();
        for (int s : new int[] {-1, 8, MIN, MAX}) {
            bad("book(" + s + ", 0)", x.book(s, 0));
        }
        due("missing", NULL, x.book(0, 0));
        due("missing, and no such place", NULL, x.book(0, -1));
        x.sheet(0, 2, 60);
        for (int i : new int[] {-1, 52, 60, MIN, MAX, MAX - 8}) {
            due("book(0, " + i + ")", PLACE, x.book(0, i));
        }
        bad("an item", x.book(0, 51));
        x.sheet(1, 2, 8);
        due("eight items", PLACE, x.book(1, 0));
        x.sheet(1, 2, 0);
        due("no items", PLACE, x.book(1, 0));
        for (int k = 0; k < 16; k++) {
            book(x, 0, 0, 1, 0, 1, 1, 0, 0, 0);
        }
        due("FULL", FULL, x.book(7, 0));
        due("FULL ahead of NULL", FULL, x.book(2, 0));
        due("FULL ahead of PLACE", FULL, x.book(7, 1));
        due("FULL ahead of an ITEM", FULL, x.book(0, 0));
        bad("BAD ahead of FULL", x.book(8, 0));
    }

    private void daysOfCancelling() {
        holds(11, "It may be CANCELLED on a day (CAME or later, its day at most).");
        for (int day : new int[] {50, 51, 99, 100}) {
            VillageHalls x = new VillageHalls();
            book(x, 0, 0, 100, 0, 1, 1, 0, 0, 50);
            bad("a day ahead of CAME", x.cancel(0, 49));
            bad("a day behind its day", x.cancel(0, 101));
            bad("day -1", x.cancel(0, -1));
            bad("day MIN", x.cancel(0, MIN));
            bad("day MAX", x.cancel(0, MAX));
            due("not CANCELLED", NONE, x.told(0, 9));
            due("cancel(0, " + day + ")", 1, x.cancel(0, day));
            due("CANCELLED", day, x.told(0, 9));
        }
        VillageHalls y = new VillageHalls();
        book(y, 0, 0, 364, 0, 1, 1, 0, 0, 364);
        book(y, 0, 0, 0, 0, 1, 1, 0, 0, 0);
        bad("day 365", y.cancel(0, 365));
        due("day 364", 1, y.cancel(0, 364));
        due("day 0", 1, y.cancel(1, 0));
        due("CANCELLED on day 0", 0, y.told(1, 9));
    }

    private void cancelled() {
        holds(11, "A BOOKING is CANCELLED on a day: 1.");
        VillageHalls x = new VillageHalls();
        book(x, 0, 0, 100, 0, 1, 1, 0, 0, 50);
        book(x, 0, 1, 100, 0, 1, 1, 0, 0, 50);
        x.day(200);
        due("whatever THE DAY is", 1, x.cancel(1, 60));
        due("this one", 60, x.told(1, 9));
        due("not the other", NONE, x.told(0, 9));
        due("it is a BOOKING still", 2, x.count(1));
    }

    private void refusedCancels() {
        holds(11, "BAD; STATE: it was.");
        VillageHalls x = new VillageHalls();
        bad("of none", x.cancel(0, 0));
        book(x, 0, 0, 100, 0, 1, 1, 0, 0, 50);
        for (int k : new int[] {-1, 1, 16, MIN, MAX}) {
            bad("cancel(" + k + ", 60)", x.cancel(k, 60));
        }
        due("once", 1, x.cancel(0, 60));
        for (int day : new int[] {50, 60, 100}) {
            due("again on " + day, STATE, x.cancel(0, day));
        }
        bad("BAD ahead of STATE", x.cancel(0, 49));
        bad("BAD ahead of STATE", x.cancel(0, 101));
        due("the first day stays", 60, x.told(0, 9));
    }

    private void whatABookingTells() {
        holds(12, "Of a BOOKING: 0 HALL, 1 FLOOR, 2 day, 3 from, 4 to, 5 people, 6 USE, 7 LICENCE, 8 CAME, 9 when "
            + "it was CANCELLED (NONE), 10 PRICE.");
        int[][] both = {{0, 0, 0, 0, 1, 1, 0, 0, 0}, {3, 1, 364, 95, 96, 999, 4, 1, 364}};
        VillageHalls x = new VillageHalls();
        for (int k = 0; k < 2; k++) {
            book(x, both[k]);
            for (int what = 0; what < 9; what++) {
                due("told(" + k + ", " + what + ")", both[k][what], x.told(k, what));
            }
            due("told(" + k + ", 9)", NONE, x.told(k, 9));
            due("told(" + k + ", 10)", 10, x.told(k, 10));
        }
        x.cancel(0, 0);
        due("CANCELLED on day 0", 0, x.told(0, 9));
    }

    private void prices() {
        holds(12, "PRICE: QUARTERS times the RATE of its USE;");
        VillageHalls x = ruled("hall 1 rate club 0 rate party 1000 rate school 7;");
        due("a BOOKING", 0, book(x, 1, 0, 9, 0, 96, 1, 2, 0, 0));
        due("RATE 0", 0, x.told(0, 10));
        book(x, 1, 0, 9, 0, 96, 1, 1, 0, 0);
        due("the dearest", 96000, x.told(1, 10));
        book(x, 1, 0, 9, 95, 96, 1, 4, 0, 0);
        due("one QUARTER", 7, x.told(2, 10));
        book(x, 0, 0, 9, 95, 96, 1, 4, 0, 0);
        due("of its HALL", 10, x.told(3, 10));
        rules(x, "hall 1 rate school 8;");
        due("by the RATE that there is", 8, x.told(2, 10));
    }

    private void forfeit(String rules, int day, int cancelled, int price) {
        VillageHalls x = ruled("hall 0 rate regular 100 " + rules + ";");
        book(x, 0, 0, day, 0, 1, 1, 0, 0, 0);
        due("not CANCELLED, " + rules, 100, x.told(0, 10));
        x.cancel(0, cancelled);
        due(day + " CANCELLED on " + cancelled + ", " + rules, price, x.told(0, 10));
    }

    private void forfeits() {
        holds(12, "CANCELLED: that times FORFEIT by 100, if its day less the day it was CANCELLED is less than "
            + "LATE, else 0.");
        forfeit("late 7 30", 100, 94, 30);
        forfeit("late 7 30", 100, 93, 0);
        forfeit("late 7 30", 100, 0, 0);
        forfeit("late 7 30", 100, 100, 30);
        forfeit("late 0 30", 100, 100, 0);
        forfeit("late 1 30", 100, 100, 30);
        forfeit("late 1 30", 100, 99, 0);
        forfeit("late 60 30", 100, 41, 30);
        forfeit("late 60 30", 100, 40, 0);
        forfeit("late 60 0", 100, 100, 0);
        forfeit("late 60 100", 100, 100, 100);
        forfeit("late 60 30", 59, 0, 30);
        forfeit("late 60 30", 60, 0, 0);
        VillageHalls x = ruled("hall 3 rate club 1000 late 60 99;");
        book(x, 3, 0, 364, 0, 96, 1, 2, 0, 0);
        x.cancel(0, 364);
        due("of the dearest", 95040, x.told(0, 10));
    }

    private void cutTowardsZero() {
        holds(12, "All that is divided is cut towards 0.");
        int[][] rows = {{1, 99, 0}, {1, 100, 1}, {99, 1, 0}, {100, 1, 1}, {199, 1, 1}, {3, 33, 0}, {3, 34, 1},
            {999, 99, 989}};
        for (int[] row : rows) {
            VillageHalls x = ruled("hall 0 rate regular " + row[0] + " late 60 " + row[1] + ";");
            book(x, 0, 0, 9, 0, 1, 1, 0, 0, 0);
            x.cancel(0, 9);
            due(row[0] + " times " + row[1] + " by 100", row[2], x.told(0, 10));
        }
    }

    private void refusedTold() {
        holds(12, "BAD.");
        VillageHalls x = new VillageHalls();
        bad("of none", x.told(0, 0));
        book(x, GOOD);
        for (int k : new int[] {-1, 1, 15, 16, MIN, MAX}) {
            bad("told(" + k + ", 0)", x.told(k, 0));
            bad("told(" + k + ", 10)", x.told(k, 10));
        }
        for (int what : new int[] {-1, 11, MIN, MAX}) {
            bad("told(0, " + what + ")", x.told(0, what));
        }
    }

    /** Both, on one FLOOR and day of HALL 0, are {from, to, USE}. */
    private void pair(int want, String rules, int[] a, int[] b) {
        VillageHalls x = ruled(rules);
        book(x, 0, 0, 9, a[0], a[1], 1, a[2], 0, 0);
        book(x, 0, 0, 9, b[0], b[1], 1, b[2], 0, 0);
        String both = rules + " " + a[0] + "-" + a[1] + " of " + a[2] + ", " + b[0] + "-" + b[1] + " of " + b[2];
        due(both, want, x.clash(0, 1));
        due(both + ", the other way", want, x.clash(1, 0));
    }

    private static int[] of(int from, int to, int use) {
        return new int[] {from, to, use};
    }

    private void clashesInTime() {
        holds(13, "and each begins ahead of the other one's end,");
        pair(0, "", of(40, 48, 1), of(48, 49, 1));
        pair(1, "", of(40, 48, 1), of(47, 49, 1));
        pair(0, "", of(40, 48, 1), of(39, 40, 1));
        pair(1, "", of(40, 48, 1), of(39, 41, 1));
        pair(1, "", of(40, 48, 1), of(40, 48, 1));
        pair(1, "", of(40, 48, 1), of(43, 44, 1));
        pair(1, "", of(0, 96, 1), of(0, 1, 1));
        pair(1, "", of(0, 96, 1), of(95, 96, 1));
        pair(0, "", of(0, 48, 1), of(48, 96, 1));
    }

    private void clashesBySetup() {
        holds(13, "and SETUP of the HALL more, if their USES are unlike.");
        for (int setup = 0; setup <= 8; setup++) {
            String rules = "hall 0 setup " + setup + ";";
            pair(0, rules, of(40, 48, 1), of(48 + setup, 80, 2));
            pair(1, rules, of(40, 48, 1), of(47 + setup, 80, 2));
            pair(0, rules, of(40, 48, 0), of(10, 40 - setup, 4));
            pair(1, rules, of(40, 48, 0), of(10, 41 - setup, 4));
            pair(0, rules, of(40, 48, 3), of(48, 80, 3));
        }
        pair(0, "hall 1 setup 8;", of(40, 48, 1), of(50, 80, 2));
        pair(1, "", of(40, 48, 1), of(49, 80, 2));
        pair(1, "hall 0 setup 8;", of(0, 1, 1), of(8, 96, 2));
        pair(0, "hall 0 setup 8;", of(0, 1, 1), of(9, 96, 2));
    }

    private void clashesInPlace() {
        holds(13, "Two BOOKINGS CLASH, if they are on one FLOOR of one HALL and one day,");
        VillageHalls x = ruled("hall 0 setup 8;");
        book(x, 0, 0, 9, 90, 96, 1, 1, 0, 0);
        book(x, 0, 1, 9, 90, 96, 1, 1, 0, 0);
        book(x, 1, 0, 9, 90, 96, 1, 1, 0, 0);
        book(x, 0, 0, 8, 90, 96, 1, 1, 0, 0);
        book(x, 0, 0, 10, 0, 6, 1, 2, 0, 0);
        book(x, 0, 0, 9, 90, 96, 1, 1, 0, 9);
        due("another FLOOR", 0, x.clash(0, 1));
        due("another HALL", 0, x.clash(0, 2));
        due("another day", 0, x.clash(0, 3));
        due("over midnight", 0, x.clash(0, 4));
        due("all alike", 1, x.clash(0, 5));
    }

    private void whetherTheyClash() {
        holds(13, "Whether two BOOKINGS CLASH: 1, 0.");
        VillageHalls x = new VillageHalls();
        for (int k = 0; k < 16; k++) {
            book(x, 0, 0, 9, k, k + 1, 999, 1, 1, 9);
        }
        book(x, 0, 0, 9, 15, 16, 1, 1, 0, 0);
        due("the first and the last", 0, x.clash(0, 15));
        VillageHalls y = new VillageHalls();
        book(y, 0, 0, 9, 0, 8, 999, 1, 0, 9);
        book(y, 0, 0, 9, 7, 9, 1, 1, 0, 5);
        due("neither HOLDS on THE DAY", 1, y.clash(0, 1));
        y.cancel(1, 6);
        due("one is CANCELLED", 1, y.clash(0, 1));
    }

    private void refusedClashes() {
        holds(13, "BAD (the same, too).");
        VillageHalls x = new VillageHalls();
        bad("of none", x.clash(0, 1));
        book(x, GOOD);
        book(x, GOOD);
        bad("the same 0", x.clash(0, 0));
        bad("the same 1", x.clash(1, 1));
        bad("the same that is none", x.clash(2, 2));
        for (int k : new int[] {-1, 2, 16, MIN, MAX}) {
            bad("clash(0, " + k + ")", x.clash(0, k));
            bad("clash(" + k + ", 0)", x.clash(k, 0));
        }
    }
}
