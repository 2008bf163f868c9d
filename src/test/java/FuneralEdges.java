/** Promise 16: a funeral that moves the fewest. */
final class FuneralEdges extends Edges {
    FuneralEdges(Check check, Document document) {
        super(check, document);
    }

    @Override
    void all() {
        floorWithTheFewest();
        fireOfTheFloor();
        asAUse3();
        thoseThatHold();
        ofBothAsMany();
        orderOfFloors();
        fireWhereItGoes();
        thoseThatHoldThere();
        thoseToBeMoved();
        thoseMovedThere();
        norTheFuneral();
        someFindNone();
        licencesAreNotLookedAt();
        whatIsTold();
        refusedFunerals();
    }

    /** A funeral on day 100 in HALL 0: its FLOOR, how many are MOVED, how many find none, where each goes. */
    private void due(VillageHalls x, String why, int[] funeral, int... want) {
        for (int what = 0; what <= 18; what++) {
            int due = what < want.length ? want[what] : NONE;
            due(why + ", what " + what, due, x.funeral(0, 100, funeral[0], funeral[1], funeral[2], what));
        }
    }

    private static int[] of(int from, int to, int people) {
        return new int[] {from, to, people};
    }

    private void floorWithTheFewest() {
        holds(16, "A FUNERAL of p people from a QUARTER to a later one, on a day in a HALL: it is put on the FLOOR "
            + "(FIRE p or more) on which the fewest BOOKINGS");
        VillageHalls x = new VillageHalls();
        book(x, 0, 0, 100, 40, 44, 1, 3, 0, 0);
        due(x, "none on FLOOR 1", of(43, 44, 1), 1, 0, 0);
        due(x, "none on FLOOR 0, either: it ends as the other begins", of(39, 40, 1), 0, 0, 0);
        due(x, "nor when it begins as the other ends", of(44, 45, 1), 0, 0, 0);
        book(x, 0, 1, 100, 40, 44, 1, 3, 0, 0);
        book(x, 0, 1, 100, 44, 48, 1, 3, 0, 0);
        due(x, "one to two", of(40, 48, 1), 0, 1, 0, 2);
        book(x, 0, 0, 100, 44, 48, 1, 3, 0, 0);
        book(x, 0, 0, 100, 48, 52, 1, 3, 0, 0);
        due(x, "three to two", of(40, 52, 1), 1, 2, 0, NONE, 2, 2);
        due("another day", 0, x.funeral(0, 99, 40, 52, 1, 1));
        due("another HALL", 0, x.funeral(1, 100, 40, 52, 1, 1));
    }

    private void fireOfTheFloor() {
        holds(16, "it is put on the FLOOR (FIRE p or more)");
        VillageHalls x = ruled("hall 0 fire 0 20 fire 1 500;");
        book(x, 0, 1, 100, 40, 44, 1, 3, 0, 0);
        due(x, "20 people", of(40, 44, 20), 0, 0, 0);
        due(x, "21 people", of(40, 44, 21), 1, 1, 0, 0);
    }

    private void asAUse3() {
        holds(16, "would CLASH with it as a USE 3;");
        VillageHalls x = ruled("hall 0 fire 1 0 setup 8;");
        book(x, 0, 0, 100, 40, 44, 1, 2, 0, 0);
        due(x, "8 QUARTERS ahead", of(30, 32, 1), 0, 0, 0);
        due(x, "7 QUARTERS ahead", of(30, 33, 1), 0, 1, 0, 2);
        due(x, "8 QUARTERS behind", of(52, 54, 1), 0, 0, 0);
        due(x, "7 QUARTERS behind", of(51, 54, 1), 0, 1, 0, 2);
        VillageHalls y = ruled("hall 0 fire 1 0 setup 8;");
        book(y, 0, 0, 100, 40, 44, 1, 3, 0, 0);
        due(y, "a funeral right behind another", of(44, 45, 1), 0, 0, 0);
    }

    private void thoseThatHold() {
        holds(16, "BOOKINGS that HOLD (AS KNOWN on THE DAY)");
        VillageHalls x = ruled("hall 0 fire 1 0;");
        book(x, 0, 0, 100, 40, 44, 1, 3, 0, 50);
        book(x, 0, 0, 100, 43, 48, 1, 4, 0, 0);
        book(x, 0, 0, 100, 40, 44, 101, 3, 0, 0);
        x.cancel(0, 60);
        int[][] rows = {{49, 1}, {50, 0}, {59, 0}, {60, 1}, {364, 1}};
        for (int[] row : rows) {
            x.day(row[0]);
            due("how many on " + row[0], 1, x.funeral(0, 100, 43, 44, 1, 1));
            due("booking 0 on " + row[0], row[1] == 0 ? 2 : NONE, x.funeral(0, 100, 43, 44, 1, 3));
            due("booking 1 on " + row[0], row[1] == 1 ? 2 : NONE, x.funeral(0, 100, 43, 44, 1, 4));
        }
    }

    private void ofBothAsMany() {
        holds(16, "of both as many FLOOR 0.");
        VillageHalls x = new VillageHalls();
        due(x, "none on both", of(0, 96, 100), 0, 0, 0);
        book(x, 0, 1, 100, 40, 44, 1, 3, 0, 0);
        book(x, 0, 0, 100, 40, 44, 1, 3, 0, 0);
        due(x, "one on both", of(0, 96, 100), 0, 1, 0, NONE, 2);
    }

    private void orderOfFloors() {
        holds(16, "MOVED: each of those, by numbers, goes to the first FLOOR that is free for it at its time: of "
            + "its HALL, then of the HALLS behind it (round), 0 ahead of 1:");
        for (int hall = 0; hall < 4; hall++) {
            VillageHalls x = ruled("hall " + hall + " fire 1 50;");
            book(x, hall, 0, 100, 40, 44, 50, 3, 0, 0);
            for (int step = 1; step < 8; step++) {
                int h = (hall + step / 2) % 4;
                due("step " + step + " from " + hall, 2 * h + step % 2, x.funeral(hall, 100, 40, 44, 51, 3));
                due("all find one", 0, x.funeral(hall, 100, 40, 44, 51, 2));
                book(x, h, step % 2, 100, 43, 45, 1, 3, 0, 0);
            }
            due("no more from " + hall, NONE, x.funeral(hall, 100, 40, 44, 51, 3));
            due("it finds none", 1, x.funeral(hall, 100, 40, 44, 51, 2));
        }
        VillageHalls y = ruled("hall 0 fire 1 0;");
        book(y, 0, 0, 100, 48, 52, 1, 3, 0, 0);
        book(y, 1, 0, 100, 49, 50, 1, 3, 0, 0);
        book(y, 0, 0, 100, 40, 48, 1, 3, 0, 0);
        due(y, "each at its own time", of(40, 52, 1), 0, 2, 0, 3, NONE, 2);
    }

    private void fireWhereItGoes() {
        holds(16, "FIRE is enough,");
        VillageHalls x = ruled("hall 0 fire 1 19;hall 1 fire 0 20 fire 1 21;");
        book(x, 0, 0, 100, 40, 44, 19, 3, 0, 0);
        book(x, 0, 0, 100, 44, 48, 20, 3, 0, 0);
        book(x, 0, 0, 100, 48, 52, 21, 3, 0, 0);
        book(x, 0, 0, 100, 52, 56, 22, 3, 0, 0);
        due(x, "each where FIRE is enough", of(40, 56, 30), 0, 4, 0, 1, 2, 3, 4);
    }

    private void thoseThatHoldThere() {
        holds(16, "and it would CLASH there with none that HOLDS");
        VillageHalls x = ruled("hall 0 fire 1 0;hall 1 setup 3;hall 2 setup 0;");
        book(x, 0, 0, 100, 40, 44, 1, 1, 0, 0);
        book(x, 1, 0, 100, 46, 48, 1, 2, 0, 0);
        book(x, 1, 1, 100, 40, 44, 101, 1, 0, 0);
        book(x, 1, 1, 100, 47, 48, 1, 2, 0, 0);
        due(x, "a QUARTER too near, then SETUP away", of(40, 44, 1), 0, 1, 0, 3);
        book(x, 1, 1, 100, 37, 40, 1, 1, 0, 0);
        due(x, "right behind its like", of(40, 44, 1), 0, 1, 0, 3);
        book(x, 1, 1, 100, 33, 37, 1, 1, 0, 0);
        book(x, 1, 1, 100, 43, 44, 1, 1, 0, 0);
        due(x, "one QUARTER is taken", of(40, 44, 1), 0, 1, 0, 4);
        book(x, 2, 0, 100, 44, 48, 1, 2, 0, 0);
        due(x, "without SETUP", of(40, 44, 1), 0, 1, 0, 4);
    }

    private void thoseToBeMoved() {
        holds(16, "(but those that are to be MOVED),");
        VillageHalls x = ruled("hall 0 fire 0 30 fire 1 40;");
        book(x, 0, 1, 100, 40, 44, 40, 3, 0, 0);
        book(x, 0, 1, 100, 44, 48, 30, 3, 0, 0);
        due(x, "the funeral has their FLOOR", of(43, 45, 35), 1, 2, 0, 2, 0);
        book(x, 0, 0, 100, 44, 45, 1, 3, 0, 0);
        due(x, "one that HOLDS is in the way", of(43, 45, 35), 1, 2, 0, 2, 2);
    }

    private void thoseMovedThere() {
        holds(16, "none that was MOVED there,");
        VillageHalls x = ruled("hall 0 fire 1 0 setup 0;hall 1 setup 1;");
        book(x, 0, 0, 100, 44, 48, 1, 2, 0, 0);
        book(x, 0, 0, 100, 40, 44, 1, 1, 0, 0);
        book(x, 0, 0, 100, 48, 52, 1, 2, 0, 0);
        book(x, 0, 0, 100, 52, 53, 1, 1, 0, 0);
        due(x, "SETUP of the HALL they go to", of(40, 53, 1), 0, 4, 0, 2, 3, 2, 3);
        rules(x, "hall 1 setup 0;");
        due(x, "without it", of(40, 53, 1), 0, 4, 0, 2, 2, 2, 2);
        rules(x, "hall 1 setup 8;");
        due(x, "8 QUARTERS are between", of(40, 53, 1), 0, 4, 0, 2, 3, 2, 3);
        VillageHalls y = ruled("hall 0 fire 1 0 setup 0;hall 1 setup 8;hall 2 setup 8;");
        for (int k = 0; k < 5; k++) {
            book(y, 0, 0, 100, 40 + 2 * k, 42 + 2 * k, 1, k, 0, 0);
        }
        due(y, "five unlike ones, each on a FLOOR of its own", of(40, 50, 1), 0, 5, 0, 2, 3, 4, 5, 6);
    }

    private void norTheFuneral() {
        holds(16, "nor the FUNERAL.");
        VillageHalls x = new VillageHalls();
        book(x, 0, 0, 100, 44, 48, 1, 2, 0, 0);
        book(x, 0, 1, 100, 44, 48, 1, 2, 0, 0);
        due(x, "its own FLOOR has the funeral", of(44, 48, 1), 0, 1, 0, 2);
        due(x, "SETUP ahead of it, too", of(49, 52, 1), 0, 1, 0, 2);
        due(x, "and no further", of(50, 52, 1), 0, 0, 0);
    }

    private void someFindNone() {
        holds(16, "Some may find none.");
        VillageHalls x = ruled("hall 0 fire 0 500;");
        book(x, 0, 0, 100, 40, 44, 101, 3, 0, 0);
        book(x, 0, 0, 100, 44, 48, 100, 3, 0, 0);
        book(x, 0, 0, 100, 48, 52, 500, 3, 0, 0);
        due(x, "two of three", of(40, 52, 500), 0, 3, 2, NONE, 1, NONE);
    }

    private void licencesAreNotLookedAt() {
        holds(16, "(LICENCES are not looked at.)");
        VillageHalls x = ruled("hall 0 fire 1 0 licences 1;hall 1 licences 0;");
        book(x, 0, 0, 100, 40, 44, 1, 3, 1, 0);
        due(x, "it goes where there is no LICENCE", of(40, 44, 1), 0, 1, 0, 2);
    }

    private void whatIsTold() {
        holds(16, "A FUNERAL: 0 its FLOOR (NONE: no FIRE is enough), 1 how many are to be MOVED, 2 how many of "
            + "these find no place, 3 to 18: BOOKING 0 to 15: 2 times the HALL and the FLOOR it goes to, NONE: it "
            + "is not MOVED, or finds none.");
        VillageHalls x = ruled("hall 0 setup 0 fire 1 99;");
        due(x, "no BOOKINGS", of(0, 1, 100), 0, 0, 0);
        due(x, "no FIRE is enough", of(0, 1, 101), NONE, 0, 0);
        for (int k = 0; k < 16; k++) {
            book(x, 0, 0, 100, 6 * k, 6 * k + 6, 1, 1, 0, 0);
        }
        due(x, "all sixteen", of(0, 96, 100), 0, 16, 0, 1, 1, 1, 1, 1, 1, 1, 1, 1, 1, 1, 1, 1, 1, 1, 1);
        due(x, "the last", of(95, 96, 100), 0, 1, 0, NONE, NONE, NONE, NONE, NONE, NONE, NONE, NONE, NONE, NONE, NONE,
            NONE, NONE, NONE, NONE, 1);
        due(x, "no FIRE is enough, whoever HOLDS", of(0, 96, 101), NONE, 0, 0);
        rules(x, "hall 0 fire 0 500;");
        due("500 people", 0, x.funeral(0, 100, 0, 96, 500, 0));
        due("it changes nothing", 0, x.told(0, 1));
        due("all HOLD still", 65535, x.holding(0, 0));
    }

    private void refusedFunerals() {
        holds(16, "BAD: HALL, day, people (1 to 500), QUARTERS, what.");
        VillageHalls x = ruled("hall 3 fire 0 500;");
        for (int bad : new int[] {-1, 4, MIN, MAX}) {
            bad("HALL " + bad, x.funeral(bad, 0, 0, 1, 1, 0));
        }
        for (int bad : new int[] {-1, 365, MIN, MAX}) {
            bad("day " + bad, x.funeral(0, bad, 0, 1, 1, 0));
        }
        for (int bad : new int[] {0, -1, 501, MIN, MAX}) {
            bad(bad + " people", x.funeral(0, 0, 0, 1, bad, 0));
        }
        for (int bad : new int[] {-1, 19, MIN, MAX}) {
            bad("what " + bad, x.funeral(0, 0, 0, 1, 1, bad));
        }
        int[][] spans = {{-1, 1}, {0, 0}, {1, 0}, {96, 96}, {95, 97}, {96, 97}, {MIN, MAX}, {MAX, MIN}, {0, MAX},
            {MIN, 1}};
        for (int[] s : spans) {
            bad("from " + s[0] + " to " + s[1], x.funeral(0, 0, s[0], s[1], 1, 0));
        }
        due("the greatest of each", NONE, x.funeral(3, 364, 95, 96, 500, 18));
        due("its FLOOR", 0, x.funeral(3, 364, 0, 96, 500, 0));
        due("the least of each", 0, x.funeral(0, 0, 0, 1, 1, 0));
    }
}
