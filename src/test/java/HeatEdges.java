/** Promises 17 to 19: coins, what they let run, and meters. */
final class HeatEdges extends Edges {
    HeatEdges(Check check, Document document) {
        super(check, document);
    }

    @Override
    void all() {
        fortyCoins();
        behindWhatRunsStill();
        inOrderOfTime();
        refusedCoins();
        minutesOfRun();
        coinsOfThatTime();
        overMidnight();
        runsThereAre();
        refusedRuns();
        metersThatAgree();
        metersThereAre();
        refusedMeters();
    }

    private void fortyCoins() {
        holds(17, "HEAT: COINS, as they are told (40 at most): a HALL, a day, a QUARTER, minutes (1 to 600):");
        VillageHalls x = new VillageHalls();
        for (int i = 1; i <= 40; i++) {
            due("COIN " + i, i, x.coin(i % 4, i % 2 * 364, i % 3 == 0 ? 95 : 0, i % 2 == 0 ? 1 : 600));
            due("COINS", i, x.count(6));
        }
        due("COIN 41", FULL, x.coin(0, 0, 0, 1));
        due("COIN 41 of another HALL", FULL, x.coin(3, 364, 95, 600));
        due("COINS", 40, x.count(6));
    }

    private void behindWhatRunsStill() {
        holds(17, "the heat runs on from then, behind what runs still.");
        VillageHalls x = new VillageHalls();
        x.coin(0, 0, 0, 15);
        x.coin(0, 0, 1, 15);
        due("one behind another's end", 30, x.run(0, 0, 2));
        x.coin(0, 0, 1, 15);
        due("two of one QUARTER", 30, x.run(0, 0, 2));
        due("the second of them", 45, x.run(0, 0, 3));
        due("and no more", 45, x.run(0, 0, 4));
        x.coin(0, 0, 5, 1);
        due("behind a gap of two QUARTERS", 45, x.run(0, 0, 5));
        due("a minute", 46, x.run(0, 0, 6));
        VillageHalls y = new VillageHalls();
        for (int i = 0; i < 40; i++) {
            y.coin(1, 10, 0, 600);
        }
        due("forty at once, a day on", 1440, y.run(1, 11, 0));
        due("a QUARTER ahead of their end", 24000 - 15, y.run(1, 26, 63));
        due("at their end", 24000, y.run(1, 26, 64));
        due("a QUARTER behind it", 24000, y.run(1, 26, 65));
    }

    private void inOrderOfTime() {
        holds(17, "COINS go by days and QUARTERS, of one as told.");
        int[][] coins = {{5, 10, 30}, {5, 9, 30}, {4, 95, 30}, {5, 10, 1}, {6, 0, 20}};
        int[][] orders = {{0, 1, 2, 3, 4}, {4, 3, 2, 1, 0}, {2, 4, 1, 0, 3}};
        for (int[] order : orders) {
            VillageHalls x = new VillageHalls();
            for (int i : order) {
                x.coin(2, coins[i][0], coins[i][1], coins[i][2]);
            }
            int[][] rows = {{4, 96, 15}, {5, 1, 30}, {5, 9, 30}, {5, 10, 45}, {5, 12, 75}, {5, 13, 90}, {5, 14, 91},
                {6, 1, 106}, {6, 2, 111}};
            for (int[] row : rows) {
                due("run(2, " + row[0] + ", " + row[1] + ")", row[2], x.run(2, row[0], row[1]));
            }
        }
    }

    private void refusedCoins() {
        holds(17, "A COIN: how many there are. BAD: HALL, day, QUARTER (0 to 95), minutes; FULL: 40.");
        VillageHalls x = new VillageHalls();
        for (int bad : new int[] {-1, 4, MIN, MAX}) {
            bad("HALL " + bad, x.coin(bad, 0, 0, 1));
        }
        for (int bad : new int[] {-1, 365, MIN, MAX}) {
            bad("day " + bad, x.coin(0, bad, 0, 1));
        }
        for (int bad : new int[] {-1, 96, MIN, MAX}) {
            bad("QUARTER " + bad, x.coin(0, 0, bad, 1));
        }
        for (int bad : new int[] {0, -1, 601, MIN, MAX}) {
            bad(bad + " minutes", x.coin(0, 0, 0, bad));
        }
        due("none came", 0, x.count(6));
        due("the least of each", 1, x.coin(0, 0, 0, 1));
        due("the greatest of each", 2, x.coin(3, 364, 95, 600));
        for (int i = 3; i <= 40; i++) {
            x.coin(1, 0, 0, 1);
        }
        due("FULL", FULL, x.coin(0, 0, 0, 1));
        bad("BAD ahead of FULL", x.coin(0, 0, 96, 1));
        due("what is refused does not run", 1, x.run(0, 0, 96));
    }

    private void minutesOfRun() {
        holds(18, "RUN: minutes that heat ran from the first COIN on till a QUARTER of a day (a QUARTER is 15 "
            + "minutes, a day 1440),");
        VillageHalls x = new VillageHalls();
        due("no COIN", 0, x.run(0, 364, 96));
        x.coin(0, 10, 50, 16);
        int[][] rows = {{0, 0, 0}, {10, 49, 0}, {10, 50, 0}, {10, 51, 15}, {10, 52, 16}, {10, 53, 16}, {364, 96, 16}};
        for (int[] row : rows) {
            due("run(0, " + row[0] + ", " + row[1] + ")", row[2], x.run(0, row[0], row[1]));
        }
        due("another HALL", 0, x.run(1, 364, 96));
        VillageHalls y = new VillageHalls();
        y.coin(0, 0, 0, 600);
        y.coin(0, 0, 0, 600);
        y.coin(0, 0, 0, 600);
        due("a whole day", 1440, y.run(0, 0, 96));
        due("and a QUARTER", 1455, y.run(0, 1, 1));
        due("all", 1800, y.run(0, 2, 0));
    }

    private void coinsOfThatTime() {
        holds(18, "by COINS of that time or ahead.");
        VillageHalls x = new VillageHalls();
        x.coin(0, 10, 4, 30);
        x.coin(0, 10, 5, 30);
        x.coin(0, 10, 7, 30);
        int[] due = {0, 0, 15, 30, 45, 60, 75, 90, 90};
        for (int q = 0; q < due.length; q++) {
            due("run(0, 10, " + (3 + q) + ")", due[q], x.run(0, 10, 3 + q));
        }
    }

    private void overMidnight() {
        holds(18, "(a QUARTER is 15 minutes, a day 1440),");
        VillageHalls x = new VillageHalls();
        x.coin(0, 10, 95, 31);
        due("QUARTER 96 of a day", 15, x.run(0, 10, 96));
        due("is QUARTER 0 of the next", 15, x.run(0, 11, 0));
        due("QUARTER 1", 30, x.run(0, 11, 1));
        due("QUARTER 2", 31, x.run(0, 11, 2));
        VillageHalls y = new VillageHalls();
        y.coin(0, 364, 95, 600);
        due("the year's end", 15, y.run(0, 364, 96));
        due("a QUARTER ahead", 0, y.run(0, 364, 95));
    }

    private void runsThereAre() {
        holds(18, "RUN of a HALL till a QUARTER (0 to 96) of a day.");
        VillageHalls x = new VillageHalls();
        for (int h = 0; h < 4; h++) {
            x.coin(h, 0, 0, 1 + h);
        }
        for (int h = 0; h < 4; h++) {
            due("QUARTER 0", 0, x.run(h, 0, 0));
            due("QUARTER 96", 1 + h, x.run(h, 0, 96));
            due("the last of all", 1 + h, x.run(h, 364, 96));
        }
    }

    private void refusedRuns() {
        holds(18, "BAD.");
        VillageHalls x = new VillageHalls();
        for (int bad : new int[] {-1, 4, MIN, MAX}) {
            bad("HALL " + bad, x.run(bad, 0, 0));
        }
        for (int bad : new int[] {-1, 365, MIN, MAX}) {
            bad("day " + bad, x.run(0, bad, 0));
        }
        for (int bad : new int[] {-1, 97, MIN, MAX}) {
            bad("QUARTER " + bad, x.run(0, 0, bad));
        }
    }

    private void metersThatAgree() {
        holds(19, "A METER that tells minutes in all (0 to 100000) AGREES, if they are no more than 15 away from "
            + "RUN there.");
        VillageHalls x = new VillageHalls();
        x.coin(0, 10, 0, 100);
        int[][] rows = {{0, 0, 1}, {0, 15, 1}, {0, 16, 0}, {1, 0, 1}, {1, 30, 1}, {1, 31, 0}, {2, 15, 1}, {2, 14, 0},
            {96, 84, 0}, {96, 85, 1}, {96, 100, 1}, {96, 115, 1}, {96, 116, 0}, {96, 0, 0}, {96, 100000, 0}};
        for (int[] row : rows) {
            due("meter(0, 10, " + row[0] + ", " + row[1] + ")", row[2], x.meter(0, 10, row[0], row[1]));
        }
        VillageHalls y = new VillageHalls();
        for (int i = 0; i < 40; i++) {
            y.coin(0, 0, 0, 600);
        }
        due("the most that can run", 1, y.meter(0, 364, 96, 24015));
        due("and a minute", 0, y.meter(0, 364, 96, 24016));
        due("the least of it", 1, y.meter(0, 364, 96, 23985));
        due("less a minute", 0, y.meter(0, 364, 96, 23984));
    }

    private void metersThereAre() {
        holds(19, "A METER: 1: it AGREES, 0.");
        VillageHalls x = new VillageHalls();
        due("no COIN, 0", 1, x.meter(0, 0, 0, 0));
        due("no COIN, 15", 1, x.meter(3, 364, 96, 15));
        due("no COIN, 16", 0, x.meter(3, 364, 96, 16));
        x.coin(3, 364, 0, 60);
        due("of its HALL", 0, x.meter(3, 364, 96, 0));
        due("of another HALL", 1, x.meter(2, 364, 96, 0));
    }

    private void refusedMeters() {
        holds(19, "BAD: HALL, day, QUARTER (0 to 96), minutes.");
        VillageHalls x = new VillageHalls();
        for (int bad : new int[] {-1, 4, MIN, MAX}) {
            bad("HALL " + bad, x.meter(bad, 0, 0, 0));
        }
        for (int bad : new int[] {-1, 365, MIN, MAX}) {
            bad("day " + bad, x.meter(0, bad, 0, 0));
        }
        for (int bad : new int[] {-1, 97, MIN, MAX}) {
            bad("QUARTER " + bad, x.meter(0, 0, bad, 0));
        }
        for (int bad : new int[] {-1, 100001, MIN, MAX}) {
            bad(bad + " minutes", x.meter(0, 0, 0, bad));
        }
        due("100000 minutes", 0, x.meter(0, 0, 96, 100000));
    }
}
