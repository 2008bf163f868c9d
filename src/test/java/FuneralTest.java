/** Promise 16: a funeral that moves the fewest. */
public final class FuneralTest {
    private static final Check CHECK = new Check("FuneralTest");

    public static void main(String[] args) {
        refusals();
        floorWithTheFewest();
        fireOfFloors();
        asAFuneral();
        onlyThoseThatHold();
        movedToTheOtherFloor();
        roundTheHalls();
        fireWhereTheyGo();
        setupWhereTheyGo();
        notOntoOneAnother();
        whatIsMovedMakesRoom();
        noPlaceAtAll();
        CHECK.end();
    }

    private static void due(VillageHalls x, int[] funeral, int floor, int moved, int lost, int... goes) {
        int[] f = funeral;
        String name = "funeral(" + f[0] + ", " + f[1] + ", " + f[2] + ", " + f[3] + ", " + f[4] + ", ";
        CHECK.due(name + "0)", floor, x.funeral(f[0], f[1], f[2], f[3], f[4], 0));
        CHECK.due(name + "1)", moved, x.funeral(f[0], f[1], f[2], f[3], f[4], 1));
        CHECK.due(name + "2)", lost, x.funeral(f[0], f[1], f[2], f[3], f[4], 2));
        for (int k = 0; k < 16; k++) {
            int want = k < goes.length ? goes[k] : Check.NONE;
            CHECK.due(name + (k + 3) + ")", want, x.funeral(f[0], f[1], f[2], f[3], f[4], k + 3));
        }
    }

    private static int[] at(int... numbers) {
        return numbers;
    }

    private static void refusals() {
        VillageHalls x = new VillageHalls();
        int[][] bad = {
            {-1, 0, 0, 4, 1, 0}, {4, 0, 0, 4, 1, 0}, {0, -1, 0, 4, 1, 0}, {0, 365, 0, 4, 1, 0}, {0, 0, -1, 4, 1, 0},
            {0, 0, 4, 4, 1, 0}, {0, 0, 5, 4, 1, 0}, {0, 0, 0, 97, 1, 0}, {0, 0, 96, 97, 1, 0}, {0, 0, 0, 4, 0, 0},
            {0, 0, 0, 4, 501, 0}, {0, 0, 0, 4, 1, -1}, {0, 0, 0, 4, 1, 19},
            {0, 0, Integer.MIN_VALUE, Integer.MAX_VALUE, 1, 0}, {0, 0, 0, 4, 1, Integer.MAX_VALUE}};
        for (int[] b : bad) {
            CHECK.due("a BAD funeral", Check.BAD, x.funeral(b[0], b[1], b[2], b[3], b[4], b[5]));
        }
        due(x, at(3, 364, 95, 96, 100), 0, 0, 0);
        due(x, at(3, 364, 95, 96, 500), Check.NONE, 0, 0);
    }

    private static void floorWithTheFewest() {
        VillageHalls x = new VillageHalls();
        Check.book(x, 0, 0, 100, 40, 44, 1, 1, 0, 0);
        due(x, at(0, 100, 40, 50, 1), 1, 0, 0);
        Check.book(x, 0, 1, 100, 44, 48, 1, 1, 0, 0);
        due(x, at(0, 100, 40, 50, 1), 0, 1, 0, 1);
        Check.book(x, 0, 0, 100, 48, 52, 1, 1, 0, 0);
        due(x, at(0, 100, 40, 50, 1), 1, 1, 0, Check.NONE, 0);
        due(x, at(0, 101, 40, 50, 1), 0, 0, 0);
        due(x, at(1, 100, 40, 50, 1), 0, 0, 0);
    }

    private static void fireOfFloors() {
        VillageHalls x = new VillageHalls();
        Check.rules(x, "hall 0 fire 0 20 fire 1 30;");
        Check.book(x, 0, 0, 100, 40, 44, 1, 1, 0, 0);
        Check.book(x, 0, 1, 100, 40, 44, 1, 1, 0, 0);
        Check.book(x, 0, 1, 100, 46, 50, 1, 1, 0, 0);
        due(x, at(0, 100, 40, 50, 20), 0, 1, 0, 2);
        due(x, at(0, 100, 40, 50, 21), 1, 2, 0, Check.NONE, 2, 0);
        due(x, at(0, 100, 40, 50, 30), 1, 2, 0, Check.NONE, 2, 0);
        due(x, at(0, 100, 40, 50, 31), Check.NONE, 0, 0);
    }

    private static void asAFuneral() {
        VillageHalls x = new VillageHalls();
        Check.rules(x, "hall 0 fire 1 0;");
        Check.book(x, 0, 0, 100, 40, 44, 1, 3, 0, 0);
        Check.book(x, 0, 0, 101, 40, 44, 1, 0, 0, 0);
        due(x, at(0, 100, 44, 50, 1), 0, 0, 0);
        due(x, at(0, 100, 43, 50, 1), 0, 1, 0, 2);
        due(x, at(0, 101, 45, 50, 1), 0, 1, 0, Check.NONE, 2);
        due(x, at(0, 101, 46, 50, 1), 0, 0, 0);
    }

    private static void onlyThoseThatHold() {
        VillageHalls x = new VillageHalls();
        Check.rules(x, "hall 0 fire 1 0;");
        Check.book(x, 0, 0, 100, 40, 44, 1, 1, 0, 5);
        Check.book(x, 0, 0, 100, 42, 46, 1, 1, 0, 6);
        Check.book(x, 0, 0, 100, 42, 46, 101, 1, 0, 6);
        due(x, at(0, 100, 40, 50, 1), 0, 0, 0);
        x.day(6);
        due(x, at(0, 100, 40, 50, 1), 0, 1, 0, 2);
        x.cancel(0, 7);
        due(x, at(0, 100, 40, 50, 1), 0, 1, 0, 2);
        x.day(7);
        due(x, at(0, 100, 40, 50, 1), 0, 1, 0, Check.NONE, 2);
    }

    private static void movedToTheOtherFloor() {
        VillageHalls x = new VillageHalls();
        Check.rules(x, "hall 2 fire 1 50;");
        Check.book(x, 2, 0, 100, 40, 44, 50, 1, 0, 0);
        Check.book(x, 2, 0, 100, 46, 48, 51, 1, 0, 0);
        Check.book(x, 2, 1, 100, 10, 12, 5, 1, 0, 0);
        due(x, at(2, 100, 40, 50, 60), 0, 2, 0, 5, 6);
        due(x, at(2, 100, 5, 50, 60), 0, 2, 0, 5, 6);
        due(x, at(2, 100, 40, 50, 6), 1, 0, 0);
    }

    private static void roundTheHalls() {
        VillageHalls x = new VillageHalls();
        Check.rules(x, "hall 3 fire 1 0;");
        Check.book(x, 3, 0, 100, 40, 44, 1, 1, 0, 0);
        due(x, at(3, 100, 40, 44, 1), 0, 1, 0, 0);
        Check.book(x, 0, 0, 100, 43, 50, 1, 1, 0, 0);
        due(x, at(3, 100, 40, 44, 1), 0, 1, 0, 1);
        Check.book(x, 0, 1, 100, 43, 50, 1, 1, 0, 0);
        due(x, at(3, 100, 40, 44, 1), 0, 1, 0, 2);
        Check.book(x, 1, 0, 100, 43, 50, 1, 1, 0, 0);
        Check.book(x, 1, 1, 100, 43, 50, 1, 1, 0, 0);
        due(x, at(3, 100, 40, 44, 1), 0, 1, 0, 4);
        Check.book(x, 2, 0, 100, 43, 50, 1, 1, 0, 0);
        due(x, at(3, 100, 40, 44, 1), 0, 1, 0, 5);
        Check.book(x, 2, 1, 100, 43, 50, 1, 1, 0, 0);
        due(x, at(3, 100, 40, 44, 1), 0, 1, 1);
    }

    private static void fireWhereTheyGo() {
        VillageHalls x = new VillageHalls();
        Check.rules(x, "hall 0 fire 1 0;hall 1 fire 0 19 fire 1 20;");
        Check.book(x, 0, 0, 100, 40, 44, 20, 1, 0, 0);
        Check.book(x, 0, 0, 100, 46, 50, 19, 1, 0, 0);
        due(x, at(0, 100, 40, 50, 1), 0, 2, 0, 3, 2);
    }

    private static void setupWhereTheyGo() {
        VillageHalls x = new VillageHalls();
        Check.rules(x, "hall 0 fire 1 0 setup 0;hall 1 setup 4;hall 2 setup 0;");
        Check.book(x, 0, 0, 100, 40, 44, 1, 1, 0, 0);
        Check.book(x, 1, 0, 100, 47, 50, 1, 2, 0, 0);
        Check.book(x, 1, 1, 100, 48, 50, 1, 2, 0, 0);
        due(x, at(0, 100, 40, 44, 1), 0, 1, 0, 3);
        Check.book(x, 1, 1, 100, 33, 37, 1, 0, 0, 0);
        Check.book(x, 2, 0, 100, 44, 50, 1, 2, 0, 0);
        due(x, at(0, 100, 40, 44, 1), 0, 1, 0, 4);
    }

    private static void notOntoOneAnother() {
        VillageHalls x = new VillageHalls();
        Check.rules(x, "hall 0 fire 0 100 fire 1 0 setup 0;hall 1 setup 1;");
        Check.book(x, 0, 0, 100, 44, 48, 1, 2, 0, 0);
        Check.book(x, 0, 0, 100, 40, 44, 1, 1, 0, 0);
        Check.book(x, 0, 0, 100, 48, 52, 1, 2, 0, 0);
        due(x, at(0, 100, 40, 52, 1), 0, 3, 0, 2, 3, 2);
        VillageHalls y = new VillageHalls();
        Check.rules(y, "hall 0 fire 0 100 fire 1 0 setup 0;hall 1 setup 8;");
        Check.book(y, 0, 0, 100, 40, 44, 1, 2, 0, 0);
        Check.book(y, 0, 0, 100, 44, 48, 1, 1, 0, 0);
        Check.book(y, 0, 0, 100, 48, 52, 1, 0, 0, 0);
        due(y, at(0, 100, 40, 52, 1), 0, 3, 0, 2, 3, 4);
    }

    // One that is to be moved, too, does not stand in the way; nor does one that finds no place.
    private static void whatIsMovedMakesRoom() {
        VillageHalls x = new VillageHalls();
        Check.rules(x, "hall 0 fire 0 300 fire 1 100;");
        Check.book(x, 0, 0, 100, 40, 44, 300, 1, 0, 0);
        Check.book(x, 0, 0, 100, 44, 48, 100, 1, 0, 0);
        due(x, at(0, 100, 43, 46, 200), 0, 2, 1, Check.NONE, 1);
        due(x, at(0, 100, 36, 40, 200), 0, 1, 1);
    }

    private static void noPlaceAtAll() {
        VillageHalls x = new VillageHalls();
        Check.rules(x, "hall 1 fire 0 500 fire 1 499;");
        Check.book(x, 1, 0, 100, 40, 44, 500, 1, 0, 0);
        due(x, at(1, 100, 40, 44, 500), 0, 1, 1);
        due(x, at(1, 100, 40, 44, 499), 1, 0, 0);
    }
}
