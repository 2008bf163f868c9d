/** Promises 10 to 14: booking, cancelling, clashing, holding, prices. */
public final class BookingsTest {
    private static final Check CHECK = new Check("BookingsTest");

    public static void main(String[] args) {
        itemsOfABooking();
        refusalsOfBooking();
        sixteenAtMost();
        cancelling();
        telling();
        prices();
        clashing();
        there();
        holdingByRank();
        holdingByCame();
        fire();
        licences();
        holdingIsOneByOne();
        CHECK.end();
    }

    private static final int[] GOOD = {1, 1, 100, 40, 48, 20, 2, 1, 90};

    private static void oneItem(int item, int value, boolean good) {
        VillageHalls x = new VillageHalls();
        int[] items = GOOD.clone();
        items[item] = value;
        CHECK.due("book with item " + item + " " + value, good ? 0 : Check.BAD, Check.book(x, items));
        CHECK.due("how many", good ? 1 : 0, x.count(1));
    }

    private static void itemsOfABooking() {
        int[][] good = {{0, 3}, {0, 1}, {90, 364}, {0, 47}, {41, 96}, {1, 999}, {0, 4}, {0, 1}, {0, 100}};
        int[][] bad = {{-1, 4}, {-1, 2}, {89, 365}, {-1, 48}, {40, 97}, {0, 1000}, {-1, 5}, {-1, 2}, {-1, 101}};
        for (int i = 0; i < 9; i++) {
            for (int j = 0; j < 2; j++) {
                oneItem(i, good[i][j], true);
                oneItem(i, bad[i][j], false);
            }
            oneItem(i, Integer.MIN_VALUE, false);
            oneItem(i, Integer.MAX_VALUE, false);
        }
    }

    private static void refusalsOfBooking() {
        VillageHalls x = new VillageHalls();
        CHECK.due("book(8, 0)", Check.BAD, x.book(8, 0));
        CHECK.due("book(-1, 0)", Check.BAD, x.book(-1, 0));
        CHECK.due("book of a missing sheet", Check.NULL, x.book(0, 0));
        CHECK.due("NULL is ahead of PLACE", Check.NULL, x.book(0, -1));
        CHECK.due("status NULL", 1, x.status());
        x.sheet(0, 1, 10);
        CHECK.due("book(0, 2)", Check.PLACE, x.book(0, 2));
        CHECK.due("status PLACE", 2, x.status());
        CHECK.due("book(0, -1)", Check.PLACE, x.book(0, -1));
        CHECK.due("book(0, MAX)", Check.PLACE, x.book(0, Integer.MAX_VALUE));
        CHECK.due("an item is BAD", Check.BAD, x.book(0, 1));
        CHECK.due("BAD leaves status", 2, x.status());
        x.set(0, 5, 1);
        x.set(0, 6, 1);
        CHECK.due("status of set", 0, x.status());
        x.drop(1);
        CHECK.due("book(0, 1)", 0, x.book(0, 1));
        CHECK.due("status of book", 0, x.status());
        x.sheet(2, 1, 8);
        CHECK.due("eight items", Check.PLACE, x.book(2, 0));
    }

    private static void sixteenAtMost() {
        VillageHalls x = new VillageHalls();
        for (int k = 0; k < 16; k++) {
            CHECK.due("book", k, Check.book(x, 0, 0, k, 0, 96, 1, 0, 0, 0));
        }
        x.drop(0);
        CHECK.due("status of drop", 1, x.status());
        CHECK.due("the 17th", Check.FULL, x.book(7, 0));
        CHECK.due("FULL is ahead of NULL", Check.FULL, x.book(0, 0));
        CHECK.due("FULL is ahead of PLACE", Check.FULL, x.book(7, 5));
        CHECK.due("BAD is ahead of FULL", Check.BAD, x.book(8, 0));
        CHECK.due("FULL leaves status", 1, x.status());
        CHECK.due("how many", 16, x.count(1));
        CHECK.due("all hold", 65535, x.holding(0, 0));
        CHECK.due("told(15, 2)", 15, x.told(15, 2));
        CHECK.due("told(16, 2)", Check.BAD, x.told(16, 2));
    }

    private static void cancelling() {
        VillageHalls x = new VillageHalls();
        CHECK.due("cancel of none", Check.BAD, x.cancel(0, 0));
        Check.book(x, 0, 0, 100, 0, 4, 1, 0, 0, 50);
        Check.book(x, 0, 0, 100, 10, 14, 1, 0, 0, 100);
        CHECK.due("cancel(-1, 60)", Check.BAD, x.cancel(-1, 60));
        CHECK.due("cancel(2, 60)", Check.BAD, x.cancel(2, 60));
        CHECK.due("ahead of CAME", Check.BAD, x.cancel(0, 49));
        CHECK.due("behind its day", Check.BAD, x.cancel(0, 101));
        CHECK.due("no day", Check.BAD, x.cancel(0, -1));
        CHECK.due("nothing changed", Check.NONE, x.told(0, 9));
        CHECK.due("cancel(0, 50)", 1, x.cancel(0, 50));
        CHECK.due("told 9", 50, x.told(0, 9));
        CHECK.due("again", Check.STATE, x.cancel(0, 60));
        CHECK.due("BAD is ahead of STATE", Check.BAD, x.cancel(0, 49));
        CHECK.due("told 9 stays", 50, x.told(0, 9));
        CHECK.due("on its day", 1, x.cancel(1, 100));
        CHECK.due("cancel leaves status", 0, x.status());
    }

    private static void telling() {
        VillageHalls x = new VillageHalls();
        int[] items = {2, 1, 100, 40, 48, 20, 3, 1, 90};
        Check.book(x, 0, 0, 1, 0, 1, 1, 0, 0, 0);
        Check.book(x, items);
        for (int i = 0; i < 9; i++) {
            CHECK.due("told(1, " + i + ")", items[i], x.told(1, i));
        }
        CHECK.due("told(1, 9)", Check.NONE, x.told(1, 9));
        CHECK.due("told(1, 10)", 80, x.told(1, 10));
        CHECK.due("told(1, 11)", Check.BAD, x.told(1, 11));
        CHECK.due("told(1, -1)", Check.BAD, x.told(1, -1));
        CHECK.due("told(2, 0)", Check.BAD, x.told(2, 0));
        CHECK.due("told(-1, 0)", Check.BAD, x.told(-1, 0));
    }

    private static void prices() {
        VillageHalls x = new VillageHalls();
        Check.rules(x, "hall 0 late 7 33 rate party 7;hall 1 late 0 100;");
        for (int day = 92; day <= 95; day++) {
            int k = Check.book(x, 0, 0, 100, 0, 11, 1, 1, 0, 0);
            CHECK.due("price", 77, x.told(k, 10));
            x.cancel(k, day);
            CHECK.due("price when cancelled on " + day, day <= 93 ? 0 : 25, x.told(k, 10));
        }
        int k = Check.book(x, 1, 0, 100, 0, 11, 1, 1, 0, 0);
        x.cancel(k, 99);
        CHECK.due("LATE 0 costs nothing", 0, x.told(k, 10));
        int dear = Check.book(x, 2, 0, 100, 0, 96, 1, 4, 0, 0);
        Check.rules(x, "hall 2 rate school 1000 late 1 100;");
        CHECK.due("the RATE is today's", 96000, x.told(dear, 10));
        x.cancel(dear, 100);
        CHECK.due("all is forfeit", 96000, x.told(dear, 10));
        CHECK.due("none of hall 2 holds on day 100", 0, x.holding(100, 0) >> dear & 1);
        CHECK.due("it did ahead", 1, x.holding(99, 0) >> dear & 1);
        CHECK.due("PRICES are what PRICE is now", 96000, x.holding(99, 2));
    }

    private static void pair(int due, String rules, int[] a, int[] b) {
        VillageHalls x = new VillageHalls();
        Check.rules(x, rules);
        Check.book(x, a[0], a[1], a[2], a[3], a[4], 1, a[5], 0, 0);
        Check.book(x, b[0], b[1], b[2], b[3], b[4], 1, b[5], 0, 0);
        CHECK.due("clash(0, 1)", due, x.clash(0, 1));
        CHECK.due("clash(1, 0)", due, x.clash(1, 0));
        CHECK.due("clash(0, 0)", Check.BAD, x.clash(0, 0));
        CHECK.due("clash(0, 2)", Check.BAD, x.clash(0, 2));
        CHECK.due("clash(-1, 0)", Check.BAD, x.clash(-1, 0));
    }

    private static void clashing() {
        int[] a = {0, 0, 100, 40, 48, 1};
        pair(0, "", a, new int[] {0, 0, 100, 48, 52, 1});
        pair(1, "", a, new int[] {0, 0, 100, 47, 52, 1});
        pair(1, "", a, new int[] {0, 0, 100, 48, 52, 2});
        pair(1, "", a, new int[] {0, 0, 100, 49, 52, 2});
        pair(0, "", a, new int[] {0, 0, 100, 50, 52, 2});
        pair(0, "", a, new int[] {0, 0, 100, 36, 40, 1});
        pair(1, "", a, new int[] {0, 0, 100, 36, 39, 2});
        pair(0, "", a, new int[] {0, 0, 100, 36, 38, 2});
        pair(1, "", a, new int[] {0, 0, 100, 42, 44, 1});
        pair(0, "", a, new int[] {0, 1, 100, 42, 44, 1});
        pair(0, "", a, new int[] {1, 0, 100, 42, 44, 1});
        pair(0, "", a, new int[] {0, 0, 101, 42, 44, 1});
        pair(0, "hall 0 setup 0;", a, new int[] {0, 0, 100, 48, 52, 2});
        pair(1, "hall 0 setup 8;", a, new int[] {0, 0, 100, 55, 56, 2});
        pair(0, "hall 0 setup 8;", a, new int[] {0, 0, 100, 56, 57, 2});
        pair(0, "hall 1 setup 8;", a, new int[] {0, 0, 100, 50, 57, 2});
    }

    private static void there() {
        VillageHalls x = new VillageHalls();
        Check.book(x, 0, 0, 100, 0, 4, 1, 0, 0, 50);
        Check.book(x, 0, 1, 100, 0, 4, 1, 0, 0, 60);
        x.cancel(0, 70);
        int[] days = {0, 49, 50, 59, 60, 69, 70, 100, 101, 364};
        int[] sets = {0, 0, 1, 1, 3, 3, 2, 2, 2, 2};
        for (int i = 0; i < days.length; i++) {
            CHECK.due("THERE on " + days[i], sets[i], x.holding(days[i], 1));
            CHECK.due("HOLD on " + days[i], sets[i], x.holding(days[i], 0));
        }
        CHECK.due("holding(-1, 0)", Check.BAD, x.holding(-1, 0));
        CHECK.due("holding(365, 0)", Check.BAD, x.holding(365, 0));
        CHECK.due("holding(0, -1)", Check.BAD, x.holding(0, -1));
        CHECK.due("holding(0, 3)", Check.BAD, x.holding(0, 3));
        CHECK.due("a day ahead of the cancelling, which came early enough", 40, x.holding(69, 2));
        CHECK.due("and from it on", 40, x.holding(70, 2));
    }

    private static void holdingByRank() {
        VillageHalls x = new VillageHalls();
        Check.book(x, 0, 0, 100, 40, 48, 1, 4, 0, 1);
        Check.book(x, 0, 0, 100, 40, 48, 1, 1, 0, 9);
        Check.book(x, 1, 0, 100, 40, 48, 1, 4, 0, 1);
        Check.book(x, 1, 0, 100, 40, 48, 1, 1, 0, 9);
        CHECK.due("a school came first", 1 | 4, x.holding(8, 0));
        CHECK.due("a party is ahead", 2 | 8, x.holding(9, 0));
        Check.rules(x, "hall 0 first school;");
        CHECK.due("in hall 0 no more", 1 | 8, x.holding(9, 0));
        CHECK.due("PRICES", 160, x.holding(9, 2));
        x.cancel(3, 20);
        CHECK.due("one comes back", 1 | 4, x.holding(20, 0));
        CHECK.due("as known ahead", 1 | 8, x.holding(19, 0));
    }

    private static void holdingByCame() {
        VillageHalls x = new VillageHalls();
        Check.book(x, 0, 0, 100, 40, 48, 1, 1, 0, 7);
        Check.book(x, 0, 0, 100, 40, 48, 1, 1, 0, 6);
        Check.book(x, 0, 0, 100, 40, 48, 1, 1, 0, 6);
        CHECK.due("who came first", 2, x.holding(10, 0));
        x.cancel(1, 20);
        CHECK.due("then by numbers among them", 4, x.holding(20, 0));
        VillageHalls y = new VillageHalls();
        Check.book(y, 0, 0, 364, 40, 48, 1, 1, 0, 0);
        Check.book(y, 0, 0, 364, 40, 48, 1, 0, 0, 364);
        CHECK.due("no CAME is ahead of a RANK", 2, y.holding(364, 0));
    }

    private static void fire() {
        VillageHalls x = new VillageHalls();
        Check.rules(x, "hall 0 fire 1 30;");
        Check.book(x, 0, 0, 100, 40, 48, 100, 1, 0, 0);
        Check.book(x, 0, 0, 101, 40, 48, 101, 1, 0, 0);
        Check.book(x, 0, 1, 100, 40, 48, 30, 1, 0, 0);
        Check.book(x, 0, 1, 101, 40, 48, 31, 1, 0, 0);
        Check.book(x, 0, 1, 101, 40, 48, 5, 1, 0, 1);
        CHECK.due("those that FIRE lets", 1 | 4 | 16, x.holding(100, 0));
        Check.rules(x, "hall 0 fire 1 31;");
        CHECK.due("one more person", 1 | 4 | 8, x.holding(100, 0));
    }

    private static void licences() {
        VillageHalls x = new VillageHalls();
        Check.rules(x, "hall 0 licences 2;hall 1 licences 0;");
        Check.book(x, 0, 0, 10, 0, 4, 1, 1, 1, 3);
        Check.book(x, 0, 0, 20, 0, 4, 1, 1, 1, 2);
        Check.book(x, 0, 1, 30, 0, 4, 1, 1, 1, 1);
        Check.book(x, 0, 1, 40, 0, 4, 1, 1, 0, 4);
        Check.book(x, 1, 1, 40, 0, 4, 1, 1, 1, 4);
        Check.book(x, 2, 1, 40, 0, 4, 1, 1, 1, 4);
        CHECK.due("two licences", 2 | 4 | 8 | 32, x.holding(100, 0));
        Check.rules(x, "hall 0 licences 3;");
        CHECK.due("three", 1 | 2 | 4 | 8 | 32, x.holding(100, 0));
        x.cancel(2, 25);
        Check.rules(x, "hall 0 licences 2;");
        CHECK.due("of those that hold", 1 | 2 | 8 | 32, x.holding(100, 0));
        VillageHalls y = new VillageHalls();
        Check.rules(y, "hall 0 licences 1;");
        Check.book(y, 0, 0, 10, 0, 4, 1, 1, 1, 1);
        Check.book(y, 0, 0, 20, 0, 4, 1, 1, 1, 2);
        CHECK.due("one licence goes to the first", 1, y.holding(100, 0));
    }

    // One that does not hold keeps nobody out.
    private static void holdingIsOneByOne() {
        VillageHalls x = new VillageHalls();
        Check.book(x, 0, 0, 100, 40, 48, 1, 0, 0, 1);
        Check.book(x, 0, 0, 100, 46, 54, 1, 0, 0, 2);
        Check.book(x, 0, 0, 100, 52, 60, 1, 0, 0, 3);
        CHECK.due("the first and the third", 5, x.holding(100, 0));
        x.cancel(0, 50);
        CHECK.due("the second", 2, x.holding(100, 0));
    }
}
