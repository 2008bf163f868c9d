/** Promises 17 to 23: coins, runs, meters, keys, looks, and whose a damage is. */
public final class HeatKeysLooksTest {
    private static final Check CHECK = new Check("HeatKeysLooksTest");

    public static void main(String[] args) {
        coinsTold();
        coinsRun();
        coinsInAnyOrder();
        meters();
        giving();
        keysByDays();
        looking();
        homecoming();
        homeOfThoseThatHold();
        homeAtEdges();
        homeOfLooksOfOneTime();
        homeOfLooksWithNoTimeBetween();
        CHECK.end();
    }

    private static void coinsTold() {
        VillageHalls x = new VillageHalls();
        int[][] bad = {{-1, 0, 0, 1}, {4, 0, 0, 1}, {0, -1, 0, 1}, {0, 365, 0, 1}, {0, 0, -1, 1}, {0, 0, 96, 1},
            {0, 0, 0, 0}, {0, 0, 0, 601}, {0, 0, 0, Integer.MIN_VALUE}};
        for (int[] b : bad) {
            CHECK.due("a BAD coin", Check.BAD, x.coin(b[0], b[1], b[2], b[3]));
        }
        CHECK.due("none yet", 0, x.count(6));
        for (int i = 1; i <= 40; i++) {
            CHECK.due("coin " + i, i, x.coin(i % 4, 364, 95, 600));
        }
        CHECK.due("coin 41", Check.FULL, x.coin(0, 0, 0, 1));
        CHECK.due("BAD is ahead of FULL", Check.BAD, x.coin(0, 0, 0, 0));
        CHECK.due("forty", 40, x.count(6));
        CHECK.due("the last quarter", 15, x.run(1, 364, 96));
    }

    private static void coinsRun() {
        VillageHalls x = new VillageHalls();
        CHECK.due("run(-1, 0, 0)", Check.BAD, x.run(-1, 0, 0));
        CHECK.due("run(4, 0, 0)", Check.BAD, x.run(4, 0, 0));
        CHECK.due("run(0, -1, 0)", Check.BAD, x.run(0, -1, 0));
        CHECK.due("run(0, 365, 0)", Check.BAD, x.run(0, 365, 0));
        CHECK.due("run(0, 0, -1)", Check.BAD, x.run(0, 0, -1));
        CHECK.due("run(0, 0, 97)", Check.BAD, x.run(0, 0, 97));
        CHECK.due("no coin", 0, x.run(0, 364, 96));
        x.coin(0, 10, 40, 20);
        CHECK.due("ahead of it", 0, x.run(0, 10, 39));
        CHECK.due("at it", 0, x.run(0, 10, 40));
        CHECK.due("a quarter later", 15, x.run(0, 10, 41));
        CHECK.due("two later", 20, x.run(0, 10, 42));
        x.coin(0, 10, 41, 20);
        CHECK.due("it runs on", 30, x.run(0, 10, 42));
        CHECK.due("to its end", 40, x.run(0, 10, 43));
        x.coin(0, 10, 44, 1);
        CHECK.due("a gap", 40, x.run(0, 10, 44));
        CHECK.due("behind a gap", 41, x.run(0, 10, 45));
        x.coin(0, 10, 95, 30);
        CHECK.due("into the night", 56, x.run(0, 10, 96));
        CHECK.due("which is the next day", 56, x.run(0, 11, 0));
        CHECK.due("and on", 71, x.run(0, 11, 1));
        CHECK.due("and no more", 71, x.run(0, 11, 2));
        CHECK.due("another hall", 0, x.run(1, 11, 2));
    }

    private static void coinsInAnyOrder() {
        VillageHalls x = new VillageHalls();
        x.coin(2, 5, 10, 60);
        x.coin(2, 5, 2, 60);
        x.coin(3, 5, 0, 600);
        x.coin(2, 4, 95, 120);
        x.coin(2, 5, 10, 60);
        CHECK.due("run(2, 5, 0)", 15, x.run(2, 5, 0));
        CHECK.due("run(2, 5, 9)", 150, x.run(2, 5, 9));
        CHECK.due("run(2, 5, 11)", 180, x.run(2, 5, 11));
        CHECK.due("run(2, 5, 30)", 300, x.run(2, 5, 30));
        CHECK.due("coins to come are not counted", 90, x.run(2, 5, 5));
    }

    private static void meters() {
        VillageHalls x = new VillageHalls();
        x.coin(1, 10, 0, 100);
        int[][] bad = {{-1, 0, 0, 0}, {4, 0, 0, 0}, {0, -1, 0, 0}, {0, 365, 0, 0}, {0, 0, -1, 0}, {0, 0, 97, 0},
            {0, 0, 0, -1}, {0, 0, 0, 100001}};
        for (int[] b : bad) {
            CHECK.due("a BAD meter", Check.BAD, x.meter(b[0], b[1], b[2], b[3]));
        }
        CHECK.due("84 of 100", 0, x.meter(1, 10, 96, 84));
        CHECK.due("85 of 100", 1, x.meter(1, 10, 96, 85));
        CHECK.due("100 of 100", 1, x.meter(1, 10, 96, 100));
        CHECK.due("115 of 100", 1, x.meter(1, 10, 96, 115));
        CHECK.due("116 of 100", 0, x.meter(1, 10, 96, 116));
        CHECK.due("100000 of 100", 0, x.meter(1, 10, 96, 100000));
        CHECK.due("0 of 0", 1, x.meter(1, 10, 0, 0));
        CHECK.due("15 of 0", 1, x.meter(1, 10, 0, 15));
        CHECK.due("16 of 0", 0, x.meter(1, 10, 0, 16));
    }

    private static void giving() {
        VillageHalls x = new VillageHalls();
        int[][] bad = {{-1, 0, 1, 0}, {4, 0, 1, 0}, {0, -1, 1, 0}, {0, 10, 1, 0}, {0, 0, -1, 0}, {0, 0, 10, 0},
            {0, 1, 1, 0}, {0, 0, 1, -1}, {0, 0, 1, 365}};
        for (int[] b : bad) {
            CHECK.due("a BAD give", Check.BAD, x.give(b[0], b[1], b[2], b[3]));
        }
        for (int i = 1; i <= 40; i++) {
            CHECK.due("give " + i, i, x.give(i % 4, 9, 0, 364));
        }
        CHECK.due("give 41", Check.FULL, x.give(0, 0, 1, 0));
        CHECK.due("BAD is ahead of FULL", Check.BAD, x.give(0, 0, 0, 0));
        CHECK.due("nine of ten were not good", 9, x.key(3, 364, 1));
    }

    private static void keysByDays() {
        VillageHalls x = new VillageHalls();
        CHECK.due("key(-1, 0, 0)", Check.BAD, x.key(-1, 0, 0));
        CHECK.due("key(4, 0, 0)", Check.BAD, x.key(4, 0, 0));
        CHECK.due("key(0, -1, 0)", Check.BAD, x.key(0, -1, 0));
        CHECK.due("key(0, 365, 0)", Check.BAD, x.key(0, 365, 0));
        CHECK.due("key(0, 0, -1)", Check.BAD, x.key(0, 0, -1));
        CHECK.due("key(0, 0, 2)", Check.BAD, x.key(0, 0, 2));
        CHECK.due("nobody has it", Check.NONE, x.key(0, 364, 0));
        CHECK.due("none was wrong", 0, x.key(0, 364, 1));
        x.give(0, 3, 4, 20);
        x.give(0, 4, 5, 30);
        CHECK.due("nobody on day 19", Check.NONE, x.key(0, 19, 0));
        CHECK.due("4 on day 20", 4, x.key(0, 20, 0));
        CHECK.due("4 on day 29", 4, x.key(0, 29, 0));
        CHECK.due("5 on day 30", 5, x.key(0, 30, 0));
        x.give(0, 3, 7, 25);
        CHECK.due("who has it no more gives it not", 4, x.key(0, 25, 0));
        CHECK.due("one was wrong", 1, x.key(0, 25, 1));
        CHECK.due("it changes nothing", 5, x.key(0, 30, 0));
        x.give(0, 4, 6, 30);
        CHECK.due("of one day as told", 5, x.key(0, 30, 0));
        CHECK.due("two were wrong", 2, x.key(0, 30, 1));
        x.give(0, 5, 8, 30);
        CHECK.due("twice on one day", 8, x.key(0, 30, 0));
        x.give(0, 9, 3, 10);
        CHECK.due("an earlier one is the first now", 3, x.key(0, 10, 0));
        CHECK.due("and leads to the others", 8, x.key(0, 30, 0));
        x.give(0, 9, 2, 15);
        CHECK.due("a wrong one between", 3, x.key(0, 15, 0));
        CHECK.due("three were wrong", 3, x.key(0, 364, 1));
        CHECK.due("another key", Check.NONE, x.key(1, 364, 0));
        x.give(1, 8, 9, 0);
        CHECK.due("has its own first", 9, x.key(1, 0, 0));
        CHECK.due("which is good", 0, x.key(1, 364, 1));
        CHECK.due("and key 0 stays", 8, x.key(0, 364, 0));
    }

    private static void looking() {
        VillageHalls x = new VillageHalls();
        int[][] bad = {{-1, 0, 0, 0}, {4, 0, 0, 0}, {0, -1, 0, 0}, {0, 365, 0, 0}, {0, 0, -1, 0}, {0, 0, 96, 0},
            {0, 0, 0, -1}, {0, 0, 0, 256}};
        for (int[] b : bad) {
            CHECK.due("a BAD look", Check.BAD, x.look(b[0], b[1], b[2], b[3]));
        }
        for (int i = 1; i <= 40; i++) {
            CHECK.due("look " + i, i, x.look(i % 4, 364, 95, 255));
        }
        CHECK.due("look 41", Check.FULL, x.look(0, 0, 0, 0));
        CHECK.due("BAD is ahead of FULL", Check.BAD, x.look(0, 0, 96, 0));
        CHECK.due("home(-1, 0)", Check.BAD, x.home(-1, 0));
        CHECK.due("home(4, 0)", Check.BAD, x.home(4, 0));
        CHECK.due("home(0, -1)", Check.BAD, x.home(0, -1));
        CHECK.due("home(0, 8)", Check.BAD, x.home(0, 8));
        CHECK.due("no look without it", Check.NONE, x.home(0, 7));
    }

    private static void homecoming() {
        VillageHalls x = new VillageHalls();
        Check.book(x, 1, 0, 100, 40, 48, 1, 1, 0, 0);
        Check.book(x, 1, 1, 100, 60, 64, 1, 1, 0, 0);
        Check.book(x, 0, 0, 100, 40, 48, 1, 1, 0, 0);
        CHECK.due("no look", Check.NONE, x.home(1, 0));
        x.look(1, 100, 50, 1);
        CHECK.due("none ahead", Check.NONE, x.home(1, 0));
        x.look(1, 100, 30, 0);
        CHECK.due("booking 0", 0, x.home(1, 0));
        CHECK.due("no look with it", Check.NONE, x.home(1, 1));
        x.look(1, 100, 70, 2);
        CHECK.due("booking 1", 1, x.home(1, 1));
        x.look(1, 100, 90, 4);
        CHECK.due("no booking", Check.NONE, x.home(1, 2));
        x.look(1, 99, 0, 128);
        CHECK.due("not the last look without it", 0, x.home(1, 0));
        x.look(1, 100, 80, 1);
        CHECK.due("the first with it counts", 0, x.home(1, 0));
        CHECK.due("of another hall", Check.NONE, x.home(0, 0));
        VillageHalls y = new VillageHalls();
        Check.book(y, 1, 0, 100, 40, 48, 1, 1, 0, 0);
        Check.book(y, 1, 1, 100, 60, 64, 1, 1, 0, 0);
        y.look(1, 100, 30, 0);
        y.look(1, 100, 70, 8);
        CHECK.due("several", Check.NONE, y.home(1, 3));
        y.look(0, 100, 55, 0);
        CHECK.due("a look at another hall", Check.NONE, y.home(1, 3));
        y.look(1, 100, 55, 0);
        CHECK.due("a look between", 1, y.home(1, 3));
    }

    private static void homeOfThoseThatHold() {
        VillageHalls x = new VillageHalls();
        Check.book(x, 0, 0, 100, 40, 48, 1, 1, 0, 5);
        Check.book(x, 0, 0, 100, 40, 48, 1, 1, 0, 3);
        Check.book(x, 0, 1, 100, 40, 48, 101, 1, 0, 0);
        x.look(0, 99, 0, 0);
        x.look(0, 101, 0, 1);
        CHECK.due("the one that holds", 1, x.home(0, 0));
        x.cancel(1, 50);
        CHECK.due("as known on day 364", 0, x.home(0, 0));
        x.cancel(0, 50);
        CHECK.due("none", Check.NONE, x.home(0, 0));
    }

    private static void homeAtEdges() {
        VillageHalls x = new VillageHalls();
        Check.book(x, 0, 0, 100, 40, 48, 1, 1, 0, 0);
        Check.book(x, 0, 0, 200, 90, 96, 1, 1, 0, 0);
        x.look(0, 100, 20, 0);
        x.look(0, 100, 40, 1);
        x.look(0, 100, 41, 2);
        x.look(0, 100, 47, 4);
        x.look(0, 100, 48, 8);
        x.look(0, 100, 49, 16);
        CHECK.due("it begins at the look", Check.NONE, x.home(0, 0));
        CHECK.due("it began ahead of the look", 0, x.home(0, 1));
        CHECK.due("in its middle", 0, x.home(0, 2));
        CHECK.due("its last quarter", 0, x.home(0, 3));
        CHECK.due("it ended at the look ahead", Check.NONE, x.home(0, 4));
        x.look(0, 200, 95, 0);
        x.look(0, 201, 0, 32);
        x.look(0, 201, 1, 64);
        CHECK.due("up to midnight", 1, x.home(0, 5));
        CHECK.due("from midnight on", Check.NONE, x.home(0, 6));
    }

    private static void homeOfLooksOfOneTime() {
        VillageHalls x = new VillageHalls();
        Check.book(x, 0, 0, 100, 40, 48, 1, 1, 0, 0);
        x.look(0, 100, 50, 1);
        x.look(0, 100, 50, 0);
        CHECK.due("the one without it was told later", Check.NONE, x.home(0, 0));
        x.look(0, 100, 30, 0);
        CHECK.due("one ahead", 0, x.home(0, 0));
        VillageHalls y = new VillageHalls();
        Check.book(y, 0, 0, 100, 40, 48, 1, 1, 0, 0);
        y.look(0, 100, 30, 0);
        y.look(0, 100, 50, 0);
        y.look(0, 100, 50, 1);
        CHECK.due("the one without it was told ahead", Check.NONE, y.home(0, 0));
    }

    private static void homeOfLooksWithNoTimeBetween() {
        int[] quarters = {39, 40, 41, 44, 47, 48, 49};
        for (int quarter : quarters) {
            VillageHalls x = new VillageHalls();
            Check.book(x, 0, 0, 100, 40, 48, 1, 1, 0, 0);
            x.look(0, 100, quarter, 0);
            x.look(0, 100, quarter, 4);
            CHECK.due("both looks at quarter " + quarter, Check.NONE, x.home(0, 2));
            x.look(0, 100, 0, 0);
            CHECK.due("the last without it is still that one, " + quarter, Check.NONE, x.home(0, 2));
        }
        VillageHalls y = new VillageHalls();
        Check.book(y, 0, 0, 100, 40, 48, 1, 1, 0, 0);
        y.look(0, 100, 44, 4);
        y.look(0, 100, 43, 0);
        CHECK.due("one quarter of time between", 0, y.home(0, 2));
        y.look(0, 100, 44, 0);
        CHECK.due("one without it told behind changes nothing", 0, y.home(0, 2));
        Check.book(y, 0, 1, 100, 43, 44, 1, 1, 0, 0);
        CHECK.due("both are there in that quarter", Check.NONE, y.home(0, 2));
    }
}
