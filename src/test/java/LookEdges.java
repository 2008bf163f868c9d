/** Promises 22 and 23: looks, and to whom a damage comes home. */
final class LookEdges extends Edges {
    LookEdges(Check check, Document document) {
        super(check, document);
    }

    @Override
    void all() {
        fortyLooks();
        inOrderOfTime();
        refusedLooks();
        thoseThatHoldAtTheYearsEnd();
        betweenEvenInPart();
        lastWithoutAndFirstWith();
        noneOfIt();
        toWhichBooking();
        refusedHomes();
    }

    private void fortyLooks() {
        holds(22, "LOOKS, as they are told (40 at most): a HALL, a day, a QUARTER, damage (bits 0 to 7);");
        VillageHalls x = new VillageHalls();
        for (int i = 1; i <= 40; i++) {
            due("LOOK " + i, i, x.look(i % 4, i % 2 * 364, i % 3 == 0 ? 95 : 0, i % 5 == 0 ? 255 : 0));
        }
        due("LOOK 41", FULL, x.look(0, 0, 0, 0));
        due("LOOK 41 of another HALL", FULL, x.look(3, 364, 95, 255));
    }

    private void inOrderOfTime() {
        holds(22, "they go by days and QUARTERS, of one as told.");
        int[][] looks = {{100, 50, 1}, {100, 30, 0}, {99, 95, 2}, {101, 0, 0}};
        int[][] orders = {{0, 1, 2, 3}, {3, 2, 1, 0}, {1, 3, 0, 2}, {2, 0, 3, 1}};
        for (int[] order : orders) {
            VillageHalls x = new VillageHalls();
            book(x, 0, 0, 100, 20, 30, 1, 0, 0, 0);
            book(x, 0, 0, 100, 30, 50, 1, 0, 0, 0);
            book(x, 0, 0, 100, 50, 60, 1, 0, 0, 0);
            for (int i : order) {
                x.look(0, looks[i][0], looks[i][1], looks[i][2]);
            }
            due("damage 0", 1, x.home(0, 0));
            due("damage 1, at the first LOOK", NONE, x.home(0, 1));
        }
        VillageHalls y = new VillageHalls();
        book(y, 0, 0, 100, 30, 50, 1, 0, 0, 0);
        y.look(0, 100, 50, 1);
        y.look(0, 100, 50, 0);
        due("of one QUARTER, without it told behind", NONE, y.home(0, 0));
        y.look(0, 100, 30, 0);
        due("one without it ahead of both", 0, y.home(0, 0));
    }

    private void refusedLooks() {
        holds(22, "A LOOK: how many there are. BAD: HALL, day, QUARTER (0 to 95), damage (0 to 255); FULL: 40.");
        VillageHalls x = new VillageHalls();
        for (int bad : new int[] {-1, 4, MIN, MAX}) {
            bad("HALL " + bad, x.look(bad, 0, 0, 0));
        }
        for (int bad : new int[] {-1, 365, MIN, MAX}) {
            bad("day " + bad, x.look(0, bad, 0, 0));
        }
        for (int bad : new int[] {-1, 96, MIN, MAX}) {
            bad("QUARTER " + bad, x.look(0, 0, bad, 0));
        }
        for (int bad : new int[] {-1, 256, MIN, MAX}) {
            bad("damage " + bad, x.look(0, 0, 0, bad));
        }
        due("the least of each", 1, x.look(0, 0, 0, 0));
        due("the greatest of each", 2, x.look(3, 364, 95, 255));
        for (int i = 3; i <= 40; i++) {
            due("LOOK " + i, i, x.look(1, 0, 0, 0));
        }
        book(x, 0, 0, 0, 0, 96, 1, 0, 0, 0);
        due("FULL", FULL, x.look(0, 0, 95, 1));
        bad("BAD ahead of FULL", x.look(0, 0, 96, 1));
        due("what is refused shows no damage", NONE, x.home(0, 0));
    }

    private void thoseThatHoldAtTheYearsEnd() {
        holds(23, "A damage of a HALL COMES HOME to a BOOKING (it HOLDS AS KNOWN on day 364),");
        VillageHalls x = new VillageHalls();
        book(x, 0, 0, 364, 40, 44, 1, 0, 0, 364);
        book(x, 0, 0, 364, 43, 48, 1, 1, 0, 0);
        book(x, 0, 1, 364, 43, 48, 101, 1, 0, 0);
        x.look(0, 364, 0, 0);
        x.look(0, 364, 95, 1);
        due("one that CAME on day 364", 0, x.home(0, 0));
        x.day(0);
        due("whatever THE DAY is", 0, x.home(0, 0));
        x.cancel(0, 364);
        due("one CANCELLED on day 364 does not HOLD", 1, x.home(0, 0));
        x.cancel(1, 5);
        due("none HOLDS", NONE, x.home(0, 0));
    }

    private void between(int want, int from, int to, int without, int with) {
        VillageHalls x = new VillageHalls();
        book(x, 0, 1, 100, from, to, 1, 0, 0, 0);
        x.look(0, 100 + without / 96, without % 96, 0);
        x.look(0, 100 + with / 96, with % 96, 1);
        due(from + " to " + to + " of LOOKS at " + without + " and " + with, want, x.home(0, 0));
    }

    private void betweenEvenInPart() {
        holds(23, "if it is the only one in that HALL that is, even in part, between");
        between(0, 40, 48, 30, 60);
        between(0, 40, 48, 40, 48);
        between(0, 40, 48, 43, 44);
        between(0, 40, 48, 30, 41);
        between(NONE, 40, 48, 30, 40);
        between(0, 40, 48, 47, 60);
        between(NONE, 40, 48, 48, 60);
        between(NONE, 40, 48, 44, 44);
        between(0, 95, 96, 95, 96);
        between(NONE, 95, 96, 96, 97);
        between(NONE, 95, 96, 94, 95);
        between(0, 0, 1, 0, 1);
        between(0, 0, 96, 95, 200);
        VillageHalls x = new VillageHalls();
        book(x, 0, 0, 100, 40, 48, 1, 0, 0, 0);
        book(x, 0, 1, 100, 47, 56, 1, 0, 0, 0);
        x.look(0, 100, 46, 0);
        x.look(0, 100, 47, 1);
        x.look(0, 100, 48, 3);
        x.look(0, 100, 49, 7);
        due("only one", 0, x.home(0, 0));
        due("two in part", NONE, x.home(0, 1));
        due("only the other", 1, x.home(0, 2));
    }

    private void lastWithoutAndFirstWith() {
        holds(23, "between the last LOOK without it ahead of the first LOOK with it, and that one;");
        VillageHalls x = new VillageHalls();
        for (int k = 0; k < 8; k++) {
            book(x, 0, 0, 100, 10 * k, 10 * k + 10, 1, 0, 0, 0);
        }
        int[] damage = {0, 0, 1, 1, 0, 3, 128, 131};
        for (int i = 0; i < 8; i++) {
            x.look(0, 100, 10 * i, damage[i]);
        }
        due("damage 0: mended and done again later", 1, x.home(0, 0));
        due("damage 1", 4, x.home(0, 1));
        due("damage 7", 5, x.home(0, 7));
    }

    private void noneOfIt() {
        holds(23, "NONE: no such LOOK with it, none ahead of that, no such BOOKING, or several.");
        VillageHalls x = new VillageHalls();
        due("no LOOK", NONE, x.home(0, 0));
        book(x, 0, 0, 100, 40, 48, 1, 0, 0, 0);
        x.look(0, 100, 30, 0);
        due("no LOOK with it", NONE, x.home(0, 0));
        x.look(1, 100, 60, 1);
        due("with it in another HALL", NONE, x.home(0, 0));
        due("none ahead of that", NONE, x.home(1, 0));
        x.look(0, 100, 60, 1);
        due("the one BOOKING", 0, x.home(0, 0));
        book(x, 1, 0, 100, 40, 48, 1, 0, 0, 0);
        due("one in another HALL", 0, x.home(0, 0));
        book(x, 0, 1, 100, 59, 70, 1, 0, 0, 0);
        due("several", NONE, x.home(0, 0));
        x.look(0, 100, 48, 0);
        due("a LOOK between them", 2, x.home(0, 0));
        x.look(0, 100, 59, 1);
        due("no such BOOKING", NONE, x.home(0, 0));
    }

    private void toWhichBooking() {
        holds(23, "To which BOOKING a damage (0 to 7) of a HALL COMES HOME; NONE.");
        for (int damage = 0; damage < 8; damage++) {
            VillageHalls x = new VillageHalls();
            book(x, 0, 0, 1, 0, 96, 1, 0, 0, 0);
            book(x, 3, 1, 364, 90, 95, 1, 0, 0, 0);
            x.look(3, 0, 0, 255 - (1 << damage));
            x.look(3, 364, 95, 255);
            for (int d = 0; d < 8; d++) {
                due("damage " + d + " of " + damage, d == damage ? 1 : NONE, x.home(3, d));
            }
        }
        VillageHalls y = new VillageHalls();
        for (int k = 0; k < 16; k++) {
            book(y, 0, 0, k, 0, 96, 1, 0, 0, 0);
        }
        y.look(0, 15, 95, 0);
        y.look(0, 16, 0, 1);
        due("booking 15", 15, y.home(0, 0));
    }

    private void refusedHomes() {
        holds(23, "BAD.");
        VillageHalls x = new VillageHalls();
        for (int bad : new int[] {-1, 4, MIN, MAX}) {
            bad("HALL " + bad, x.home(bad, 0));
        }
        for (int bad : new int[] {-1, 8, 32, MIN, MAX}) {
            bad("damage " + bad, x.home(0, bad));
        }
        due("the greatest of each", NONE, x.home(3, 7));
    }
}
