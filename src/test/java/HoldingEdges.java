/** Promises 14 and 15: which bookings are there and hold, and the most that a floor can be worth on a day. */
final class HoldingEdges extends Edges {
    HoldingEdges(Check check, Document document) {
        super(check, document);
    }

    @Override
    void all() {
        thereByDays();
        byRank();
        byCameThenNumbers();
        byFire();
        byClashes();
        byLicences();
        setsAndPrices();
        noneAndAll();
        refusedHoldings();
        whoMayBeOfTheMost();
        greatestPrices();
        leastNumber();
        setOfTheMost();
        refusedMosts();
    }

    private void thereByDays() {
        holds(14, "THERE on a day: CAME by it, not CANCELLED by it.");
        VillageHalls x = new VillageHalls();
        book(x, 0, 0, 100, 0, 4, 1, 0, 0, 50);
        book(x, 0, 1, 100, 0, 4, 1, 0, 0, 0);
        book(x, 1, 0, 364, 0, 4, 1, 0, 0, 364);
        book(x, 1, 1, 60, 0, 4, 1, 0, 0, 60);
        x.cancel(0, 70);
        x.cancel(3, 60);
        int[][] rows = {{0, 2}, {49, 2}, {50, 3}, {59, 3}, {60, 3}, {61, 3}, {69, 3}, {70, 2}, {101, 2}, {363, 2},
            {364, 6}};
        for (int[] row : rows) {
            due("THERE on " + row[0], row[1], x.holding(row[0], 1));
        }
    }

    private void byRank() {
        holds(14, "HOLDING, AS KNOWN on a day: of BOOKINGS THERE by RANK of their USES in their HALLS,");
        for (int a = 0; a < 5; a++) {
            for (int b = 0; b < 5; b++) {
                if (a != b) {
                    VillageHalls x = new VillageHalls();
                    book(x, 2, 0, 364, 0, 4, 1, a, 0, 0);
                    book(x, 2, 0, 364, 0, 4, 1, b, 0, 364);
                    due("USES " + a + " and " + b, a < b ? 1 : 2, x.holding(364, 0));
                    due("only one is known", 1, x.holding(363, 0));
                    rules(x, "hall 2 first school funeral club party;");
                    due("USES " + a + " and " + b + " turned round", a > b ? 1 : 2, x.holding(364, 0));
                    rules(x, "hall 1 first regular;hall 3 first regular;");
                    due("other HALLS' RANKS count not", a > b ? 1 : 2, x.holding(364, 0));
                }
            }
        }
    }

    private void byCameThenNumbers() {
        holds(14, "then CAME, then numbers:");
        VillageHalls x = new VillageHalls();
        book(x, 0, 0, 364, 0, 4, 1, 1, 0, 9);
        book(x, 0, 0, 364, 0, 4, 1, 1, 0, 8);
        book(x, 0, 0, 364, 0, 4, 1, 1, 0, 8);
        book(x, 0, 0, 364, 0, 4, 1, 1, 0, 364);
        due("who CAME first", 2, x.holding(364, 0));
        x.cancel(1, 10);
        due("then the next number", 4, x.holding(10, 0));
        x.cancel(2, 11);
        due("then who CAME next", 1, x.holding(11, 0));
        x.cancel(0, 12);
        due("on day 363 none is there", 0, x.holding(363, 0));
        due("then the last", 8, x.holding(364, 0));
    }

    private void byFire() {
        holds(14, "each HOLDS, if its people are no more than FIRE,");
        for (int fire : new int[] {0, 1, 100, 499, 500}) {
            VillageHalls x = ruled("hall 3 fire 1 " + fire + ";");
            book(x, 3, 1, 9, 0, 4, fire + 1, 0, 0, 0);
            due("one too many for " + fire, 0, x.holding(9, 0));
            due("it is THERE", 1, x.holding(9, 1));
            if (fire > 0) {
                book(x, 3, 1, 9, 0, 4, fire, 0, 0, 0);
                due("as many as " + fire, 2, x.holding(9, 0));
            }
        }
        VillageHalls y = new VillageHalls();
        book(y, 0, 0, 9, 0, 4, 999, 0, 0, 0);
        due("999 people", 0, y.holding(9, 0));
    }

    private void byClashes() {
        holds(14, "no BOOKING that HOLDS already CLASHES with it,");
        VillageHalls x = new VillageHalls();
        book(x, 0, 0, 9, 0, 4, 1, 0, 0, 0);
        book(x, 0, 0, 9, 3, 8, 1, 0, 0, 1);
        book(x, 0, 0, 9, 7, 9, 1, 0, 0, 2);
        book(x, 0, 0, 9, 4, 7, 101, 0, 0, 0);
        book(x, 0, 0, 9, 4, 7, 1, 0, 0, 3);
        due("who does not HOLD keeps nobody out", 1 | 4 | 16, x.holding(9, 0));
        book(x, 0, 0, 9, 10, 12, 1, 1, 0, 4);
        book(x, 0, 0, 9, 11, 12, 1, 1, 0, 5);
        due("SETUP keeps out", 1 | 4 | 16 | 64, x.holding(9, 0));
        rules(x, "hall 0 setup 1;");
        due("less SETUP", 1 | 4 | 16 | 32, x.holding(9, 0));
    }

    private void byLicences() {
        holds(14, "and, if it needs a LICENCE, fewer than LICENCES of those that HOLD in its HALL need one.");
        VillageHalls x = new VillageHalls();
        for (int k = 0; k < 14; k++) {
            book(x, 1, k % 2, 20 * k, 0, 4, 1, 0, 1, 0);
        }
        book(x, 1, 0, 300, 0, 4, 1, 0, 0, 0);
        book(x, 0, 0, 300, 0, 4, 1, 0, 1, 0);
        due("twelve at first", 0xFFF | 1 << 14 | 1 << 15, x.holding(364, 0));
        for (int n : new int[] {0, 1, 13, 14, 15, 50}) {
            rules(x, "hall 1 licences " + n + ";");
            int licensed = (1 << Math.min(n, 14)) - 1;
            due(n + " LICENCES", licensed | 1 << 14 | 1 << 15, x.holding(364, 0));
        }
        rules(x, "hall 1 licences 1 fire 0 0;");
        due("one that does not HOLD takes none", 2 | 1 << 15, x.holding(364, 0));
    }

    private void setsAndPrices() {
        holds(14, "AS KNOWN on a day: the set of BOOKINGS that HOLD (what = 0), that are THERE (1; bits); all "
            + "PRICES of those that HOLD (2).");
        VillageHalls x = new VillageHalls();
        book(x, 0, 0, 100, 0, 4, 1, 0, 0, 10);
        book(x, 0, 0, 100, 0, 5, 1, 0, 0, 11);
        book(x, 0, 1, 100, 0, 6, 1, 0, 0, 12);
        int[][] rows = {{9, 0, 0, 0}, {10, 1, 1, 40}, {11, 1, 3, 40}, {12, 5, 7, 100}, {364, 5, 7, 100}};
        for (int[] row : rows) {
            for (int what = 0; what < 3; what++) {
                due("holding(" + row[0] + ", " + what + ")", row[1 + what], x.holding(row[0], what));
            }
        }
        x.day(9);
        due("whatever THE DAY is", 5, x.holding(364, 0));
        x.cancel(0, 20);
        due("another HOLDS", 6, x.holding(20, 0));
        due("its PRICE", 110, x.holding(20, 2));
    }

    private void noneAndAll() {
        holds(14, "AS KNOWN on a day: the set of BOOKINGS that HOLD (what = 0), that are THERE (1; bits); all "
            + "PRICES of those that HOLD (2).");
        VillageHalls x = ruled("hall 0 rate party 1000;");
        for (int what = 0; what < 3; what++) {
            due("of none", 0, x.holding(364, what));
        }
        for (int k = 0; k < 16; k++) {
            book(x, 0, 0, 349 + k, 0, 96, 1, 1, 0, k);
        }
        due("all HOLD", 65535, x.holding(364, 0));
        due("all are THERE", 65535, x.holding(15, 1));
        due("all PRICES", 16 * 96000, x.holding(15, 2));
        due("all but one", 32767, x.holding(14, 0));
    }

    private void refusedHoldings() {
        holds(14, "BAD.");
        VillageHalls x = new VillageHalls();
        for (int bad : new int[] {-1, 365, MIN, MAX}) {
            bad("holding(" + bad + ", 0)", x.holding(bad, 0));
        }
        for (int bad : new int[] {-1, 3, MIN, MAX}) {
            bad("holding(0, " + bad + ")", x.holding(0, bad));
        }
        due("the last day", 0, x.holding(364, 2));
    }

    private void most(VillageHalls x, String why, int set, int prices) {
        due(why + ", set", set, x.most(0, 0, 100, 0));
        due(why + ", PRICES", prices, x.most(0, 0, 100, 1));
    }

    private void whoMayBeOfTheMost() {
        holds(15, "THE MOST of a HALL's FLOOR on a day (what day it is): of all sets of its BOOKINGS (THERE on THE "
            + "DAY), no two of which CLASH, each with people no more than FIRE,");
        VillageHalls x = ruled("hall 0 licences 0;");
        most(x, "none", 0, 0);
        book(x, 0, 0, 100, 0, 4, 100, 1, 1, 50);
        book(x, 0, 0, 100, 8, 12, 101, 1, 0, 50);
        book(x, 0, 1, 100, 0, 4, 1, 1, 0, 0);
        book(x, 1, 0, 100, 0, 4, 1, 1, 0, 0);
        book(x, 0, 0, 99, 0, 4, 1, 1, 0, 0);
        x.day(49);
        most(x, "a day ahead of CAME", 0, 0);
        x.day(50);
        most(x, "on the day that it CAME", 1, 40);
        x.day(364);
        most(x, "long behind it", 1, 40);
        rules(x, "hall 0 fire 0 99;");
        most(x, "one too many people", 0, 0);
        rules(x, "hall 0 fire 0 101;");
        most(x, "FIRE enough for both", 3, 80);
        x.cancel(1, 60);
        most(x, "one is CANCELLED by THE DAY", 1, 40);
        due("another FLOOR", 4, x.most(0, 1, 100, 0));
        due("another HALL", 8, x.most(1, 0, 100, 0));
        due("another day", 16, x.most(0, 0, 99, 0));
    }

    private void greatestPrices() {
        holds(15, "that with the greatest PRICES together;");
        VillageHalls x = ruled("hall 0 setup 8 rate club 11;");
        book(x, 0, 0, 100, 0, 10, 1, 1, 0, 0);
        book(x, 0, 0, 100, 10, 19, 1, 1, 0, 0);
        book(x, 0, 0, 100, 0, 18, 1, 2, 0, 0);
        most(x, "one of 198 behind two of 190", 4, 198);
        rules(x, "hall 0 rate club 10;");
        most(x, "one of 180", 3, 190);
        book(x, 0, 0, 100, 26, 28, 1, 2, 0, 0);
        most(x, "a QUARTER too near for two, none of SETUP for one", 4 | 8, 200);
        rules(x, "hall 0 setup 7;");
        most(x, "with less SETUP", 1 | 2 | 8, 210);
        inNoOrderOfTime();
        VillageHalls y = ruled("hall 0 rate party 1000;");
        for (int k = 0; k < 16; k++) {
            book(y, 0, 0, 100, 6 * (15 - k), 6 * (16 - k), 1, 1, 0, 0);
        }
        most(y, "all sixteen, a whole day", 65535, 96000);
    }

    private void inNoOrderOfTime() {
        VillageHalls x = ruled("hall 0 rate party 7;");
        book(x, 0, 0, 100, 0, 5, 1, 1, 0, 0);
        book(x, 0, 0, 100, 10, 14, 1, 1, 0, 0);
        book(x, 0, 0, 100, 4, 8, 1, 1, 0, 0);
        most(x, "the first and the third clash, the second is apart", 3, 63);
        book(x, 0, 0, 100, 20, 22, 1, 1, 0, 0);
        most(x, "an odd price, and 14 more", 3 | 8, 77);
    }

    private void leastNumber() {
        holds(15, "of several the least number (BOOKING k: 2 to the power k).");
        VillageHalls x = new VillageHalls();
        book(x, 0, 0, 100, 0, 8, 1, 1, 0, 0);
        book(x, 0, 0, 100, 0, 4, 1, 1, 0, 0);
        book(x, 0, 0, 100, 4, 8, 1, 1, 0, 0);
        book(x, 0, 0, 100, 0, 8, 1, 1, 0, 0);
        most(x, "1 of 1, 6 and 8", 1, 80);
        x.cancel(0, 0);
        most(x, "6 of 6 and 8", 6, 80);
        VillageHalls y = ruled("hall 0 rate party 0;");
        for (int k = 0; k < 16; k++) {
            book(y, 0, 0, 100, k, k + 1, 1, 1, 0, 0);
        }
        most(y, "sixteen for nothing", 0, 0);
        VillageHalls z = new VillageHalls();
        for (int k = 0; k < 16; k++) {
            book(z, 0, 0, 100, k % 2, 2 + k % 2, 1, 1, 0, 0);
        }
        most(z, "sixteen alike", 1, 20);
    }

    private void setOfTheMost() {
        holds(15, "THE MOST: the set (what = 0), its PRICES (1).");
        VillageHalls x = new VillageHalls();
        for (int k = 0; k < 15; k++) {
            book(x, 3, 1, 364, 0, 1, 999, 1, 0, 0);
        }
        book(x, 3, 1, 364, 0, 96, 1, 1, 0, 0);
        due("booking 15", 32768, x.most(3, 1, 364, 0));
        due("its PRICE", 960, x.most(3, 1, 364, 1));
    }

    private void refusedMosts() {
        holds(15, "BAD: HALL, FLOOR, day.");
        VillageHalls x = new VillageHalls();
        for (int bad : new int[] {-1, 4, MIN, MAX}) {
            bad("HALL " + bad, x.most(bad, 0, 0, 0));
        }
        for (int bad : new int[] {-1, 2, MIN, MAX}) {
            bad("FLOOR " + bad, x.most(0, bad, 0, 0));
            bad("what " + bad, x.most(0, 0, 0, bad));
        }
        for (int bad : new int[] {-1, 365, MIN, MAX}) {
            bad("day " + bad, x.most(0, 0, bad, 0));
        }
        due("the last of each", 0, x.most(3, 1, 364, 1));
        due("the first of each", 0, x.most(0, 0, 0, 0));
    }
}
