import java.util.Random;

/** Promise 15: the most worth that a floor can have on a day. */
public final class MostTest {
    private static final Check CHECK = new Check("MostTest");

    public static void main(String[] args) {
        refusals();
        whoCounts();
        leastNumber();
        nothingForNothing();
        setupsCount();
        asManyAsThereAre();
        againstAllSets();
        CHECK.end();
    }

    private static void most(VillageHalls x, String why, int set, int prices) {
        CHECK.due(why + ": set", set, x.most(0, 0, 100, 0));
        CHECK.due(why + ": prices", prices, x.most(0, 0, 100, 1));
    }

    private static void refusals() {
        VillageHalls x = new VillageHalls();
        CHECK.due("hall -1", Check.BAD, x.most(-1, 0, 0, 0));
        CHECK.due("hall 4", Check.BAD, x.most(4, 0, 0, 0));
        CHECK.due("floor -1", Check.BAD, x.most(0, -1, 0, 0));
        CHECK.due("floor 2", Check.BAD, x.most(0, 2, 0, 0));
        CHECK.due("day -1", Check.BAD, x.most(0, 0, -1, 0));
        CHECK.due("day 365", Check.BAD, x.most(0, 0, 365, 0));
        CHECK.due("what -1", Check.BAD, x.most(0, 0, 0, -1));
        CHECK.due("what 2", Check.BAD, x.most(0, 0, 0, 2));
        CHECK.due("the last of all", 0, x.most(3, 1, 364, 1));
    }

    private static void whoCounts() {
        VillageHalls x = new VillageHalls();
        Check.book(x, 0, 0, 100, 0, 4, 100, 1, 1, 10);
        Check.book(x, 0, 1, 100, 0, 8, 1, 1, 0, 10);
        Check.book(x, 1, 0, 100, 0, 8, 1, 1, 0, 10);
        Check.book(x, 0, 0, 101, 0, 8, 1, 1, 0, 10);
        Check.book(x, 0, 0, 100, 0, 8, 101, 1, 0, 10);
        Check.book(x, 0, 0, 100, 0, 5, 1, 1, 0, 11);
        Check.book(x, 0, 0, 100, 0, 6, 1, 1, 0, 12);
        most(x, "none is there on day 0", 0, 0);
        x.day(10);
        most(x, "on day 10", 1, 40);
        x.day(11);
        most(x, "on day 11", 32, 50);
        x.day(12);
        most(x, "on day 12", 64, 60);
        x.cancel(6, 95);
        most(x, "a cancelled one is worth its forfeit", 32, 50);
        x.day(95);
        most(x, "when it is gone", 32, 50);
        Check.rules(x, "hall 0 licences 0 fire 0 99;");
        most(x, "licences are not looked at, fire is", 32, 50);
        Check.rules(x, "hall 0 fire 0 500;");
        most(x, "with more fire", 16, 80);
    }

    private static void leastNumber() {
        VillageHalls x = new VillageHalls();
        Check.book(x, 0, 0, 100, 50, 60, 1, 1, 0, 0);
        Check.book(x, 0, 0, 100, 0, 10, 1, 1, 0, 0);
        Check.book(x, 0, 0, 100, 5, 15, 1, 1, 0, 0);
        Check.book(x, 0, 0, 100, 45, 55, 1, 1, 0, 0);
        most(x, "of four the least", 3, 200);
        VillageHalls y = new VillageHalls();
        Check.book(y, 0, 0, 100, 0, 4, 1, 1, 0, 0);
        Check.book(y, 0, 0, 100, 4, 8, 1, 1, 0, 0);
        Check.book(y, 0, 0, 100, 0, 8, 1, 1, 0, 0);
        most(y, "two of the same price as one", 3, 80);
        VillageHalls z = new VillageHalls();
        Check.book(z, 0, 0, 100, 0, 8, 1, 1, 0, 0);
        Check.book(z, 0, 0, 100, 0, 4, 1, 1, 0, 0);
        Check.book(z, 0, 0, 100, 4, 8, 1, 1, 0, 0);
        most(z, "one of the same price as two", 1, 80);
    }

    private static void nothingForNothing() {
        VillageHalls x = new VillageHalls();
        Check.rules(x, "hall 0 rate party 0 rate club 1000;");
        Check.book(x, 0, 0, 100, 0, 4, 1, 1, 0, 0);
        most(x, "a price of 0", 0, 0);
        Check.book(x, 0, 0, 100, 6, 8, 1, 2, 0, 0);
        Check.book(x, 0, 0, 100, 10, 12, 1, 1, 0, 0);
        most(x, "beside one of 2000", 2, 2000);
    }

    private static void setupsCount() {
        VillageHalls x = new VillageHalls();
        Check.rules(x, "hall 0 setup 3;");
        Check.book(x, 0, 0, 100, 0, 10, 1, 1, 0, 0);
        Check.book(x, 0, 0, 100, 12, 15, 1, 2, 0, 0);
        Check.book(x, 0, 0, 100, 17, 27, 1, 1, 0, 0);
        most(x, "the middle clashes with both", 5, 200);
        Check.rules(x, "hall 0 setup 2;");
        most(x, "with less setup all three", 7, 230);
        Check.rules(x, "hall 0 setup 8 rate club 100;");
        most(x, "the middle is dearer", 2, 300);
    }

    private static void asManyAsThereAre() {
        VillageHalls x = new VillageHalls();
        Check.rules(x, "hall 0 rate party 1000;");
        for (int k = 0; k < 16; k++) {
            Check.book(x, 0, 0, 100, 6 * (15 - k), 6 * (16 - k), 1, 1, 0, 0);
        }
        most(x, "all sixteen", 65535, 96000);
    }

    private static void againstAllSets() {
        Random random = new Random(15);
        for (int run = 0; run < 300; run++) {
            VillageHalls x = new VillageHalls();
            int n = 1 + random.nextInt(run < 290 ? 10 : 16);
            int span = 8 + random.nextInt(60);
            Check.rules(x, "hall 0 setup " + random.nextInt(9) + " rate club " + random.nextInt(13) + " rate school 20;");
            for (int k = 0; k < n; k++) {
                int from = random.nextInt(span);
                int people = random.nextInt(10) == 0 ? 101 : 100;
                Check.book(x, 0, 0, 100, from, from + 1 + random.nextInt(8), people, random.nextInt(5), 0, 0);
                if (random.nextInt(6) == 0) {
                    x.cancel(k, random.nextInt(101));
                }
            }
            x.day(random.nextInt(101));
            int best = bestOfAllSets(x, n);
            int prices = 0;
            for (int k = 0; k < n; k++) {
                prices += (best >> k & 1) == 1 ? x.told(k, 10) : 0;
            }
            most(x, "random run " + run, best, prices);
        }
    }

    private static int bestOfAllSets(VillageHalls x, int n) {
        int[] apart = new int[n];
        int[] price = new int[n];
        int today = x.day(0);
        x.day(today);
        int there = x.holding(today, 1);
        int may = 0;
        for (int a = 0; a < n; a++) {
            price[a] = x.told(a, 10);
            if ((there >> a & 1) == 1 && x.told(a, 5) <= x.hall(0, 4)) {
                may |= 1 << a;
            }
            for (int b = 0; b < n; b++) {
                apart[a] |= a != b && x.clash(a, b) == 1 ? 1 << b : 0;
            }
        }
        int best = 0;
        int most = 0;
        for (int set = 1; set < 1 << n; set++) {
            int sum = 0;
            boolean good = (set & ~may) == 0;
            for (int k = 0; k < n && good; k++) {
                if ((set >> k & 1) == 1) {
                    sum += price[k];
                    good = (apart[k] & set) == 0;
                }
            }
            if (good && sum > most) {
                most = sum;
                best = set;
            }
        }
        return best;
    }
}
