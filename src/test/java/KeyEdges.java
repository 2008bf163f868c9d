/** Promises 20 and 21: keys from hand to hand. */
final class KeyEdges extends Edges {
    KeyEdges(Check check, Document document) {
        super(check, document);
    }

    @Override
    void all() {
        fortyGifts();
        nobodyAtFirst();
        inOrderOfDays();
        whichAreGood();
        theFirstIsGood();
        refusedGifts();
        whoHas();
        howManyWereNotGood();
        refusedKeys();
    }

    private void fortyGifts() {
        holds(20, "KEYS 0 .. 3, PEOPLE 0 .. 9: a KEY goes from one to another one on a day, as they are told (40 at "
            + "most);");
        VillageHalls x = new VillageHalls();
        for (int i = 1; i <= 40; i++) {
            due("gift " + i, i, x.give(i % 4, i % 10, (i + 1) % 10, i % 2 * 364));
        }
        due("gift 41", FULL, x.give(0, 0, 9, 0));
        due("gift 41 of another KEY", FULL, x.give(3, 9, 0, 364));
    }

    private void nobodyAtFirst() {
        holds(21, "NONE had it at first.");
        VillageHalls x = new VillageHalls();
        for (int key = 0; key < 4; key++) {
            due("KEY " + key, NONE, x.key(key, 364, 0));
            x.give(key, key, 9, 100 + key);
            due("the day ahead", NONE, x.key(key, 99 + key, 0));
            due("the day", 9, x.key(key, 100 + key, 0));
        }
    }

    private void inOrderOfDays() {
        holds(21, "In order of days, of one day as told:");
        VillageHalls x = new VillageHalls();
        x.give(0, 3, 4, 30);
        x.give(0, 2, 3, 20);
        x.give(0, 1, 2, 10);
        due("told backwards, all are GOOD", 0, x.key(0, 364, 1));
        due("the last has it", 4, x.key(0, 30, 0));
        x.give(0, 4, 5, 30);
        x.give(0, 5, 6, 30);
        due("twice more on one day", 6, x.key(0, 30, 0));
        VillageHalls y = new VillageHalls();
        y.give(0, 1, 2, 30);
        y.give(0, 3, 4, 30);
        y.give(0, 2, 3, 30);
        due("of one day as told: the second is not GOOD", 3, y.key(0, 30, 0));
        due("one was not", 1, y.key(0, 30, 1));
    }

    private void whichAreGood() {
        holds(21, "one is GOOD, if who gives has it then");
        VillageHalls x = new VillageHalls();
        x.give(2, 0, 1, 5);
        x.give(2, 0, 9, 6);
        due("who gave it away has it not", 1, x.key(2, 6, 0));
        x.give(2, 9, 0, 7);
        due("nor who got it not", 1, x.key(2, 7, 0));
        x.give(2, 1, 0, 8);
        x.give(2, 0, 9, 9);
        due("who got it back has it", 9, x.key(2, 9, 0));
        due("two were not GOOD", 2, x.key(2, 364, 1));
        x.give(1, 9, 5, 9);
        due("another KEY is another's", 9, x.key(2, 364, 0));
        due("and goes on its own", 5, x.key(1, 364, 0));
    }

    private void theFirstIsGood() {
        holds(21, "(the first of a KEY: always).");
        VillageHalls x = new VillageHalls();
        x.give(0, 7, 8, 364);
        due("on the last day", 8, x.key(0, 364, 0));
        x.give(0, 5, 6, 0);
        due("one on day 0 is the first now", 6, x.key(0, 363, 0));
        due("what was the first is not GOOD now", 1, x.key(0, 364, 1));
        due("so nobody got it of it", 6, x.key(0, 364, 0));
        x.give(0, 1, 2, 0);
        due("a second of day 0 is not the first", 6, x.key(0, 0, 0));
        due("nor GOOD", 1, x.key(0, 0, 1));
    }

    private void refusedGifts() {
        holds(20, "A KEY goes to someone: how many such there are. BAD: KEY, people (unlike), day; FULL: 40.");
        VillageHalls x = new VillageHalls();
        for (int bad : new int[] {-1, 4, MIN, MAX}) {
            bad("KEY " + bad, x.give(bad, 0, 1, 0));
        }
        for (int bad : new int[] {-1, 10, MIN, MAX}) {
            bad("from " + bad, x.give(0, bad, 1, 0));
            bad("to " + bad, x.give(0, 1, bad, 0));
            bad("from and to " + bad, x.give(0, bad, bad, 0));
        }
        for (int one = 0; one < 10; one++) {
            bad("from " + one + " to the same", x.give(0, one, one, 0));
        }
        for (int bad : new int[] {-1, 365, MIN, MAX}) {
            bad("day " + bad, x.give(0, 0, 1, bad));
        }
        due("none of it counts", NONE, x.key(0, 364, 0));
        due("the least of each", 1, x.give(0, 0, 1, 0));
        due("the greatest of each", 2, x.give(3, 9, 8, 364));
        for (int i = 3; i <= 40; i++) {
            due("gift " + i, i, x.give(1, 8, 9, 0));
        }
        due("FULL", FULL, x.give(0, 1, 2, 0));
        bad("BAD ahead of FULL", x.give(0, 1, 1, 0));
        due("what is refused moves no KEY", 1, x.key(0, 364, 0));
    }

    private void whoHas() {
        holds(21, "HAS: who has it on a day, by the GOOD ones of it.");
        holds(21, "Who HAS a KEY on a day (what = 0; NONE: nobody),");
        VillageHalls x = new VillageHalls();
        x.give(3, 0, 9, 0);
        x.give(3, 9, 0, 364);
        due("on day 0", 9, x.key(3, 0, 0));
        due("on day 363", 9, x.key(3, 363, 0));
        due("on day 364: number 0", 0, x.key(3, 364, 0));
        due("nobody has KEY 0", NONE, x.key(0, 364, 0));
    }

    private void howManyWereNotGood() {
        holds(21, "how many of it till then were not GOOD (1).");
        VillageHalls x = new VillageHalls();
        due("of none", 0, x.key(0, 364, 1));
        x.give(0, 0, 1, 10);
        x.give(0, 5, 6, 20);
        x.give(0, 5, 6, 20);
        x.give(0, 5, 6, 30);
        x.give(1, 5, 6, 30);
        x.give(1, 5, 6, 30);
        int[][] rows = {{0, 0}, {10, 0}, {19, 0}, {20, 2}, {29, 2}, {30, 3}, {364, 3}};
        for (int[] row : rows) {
            due("till " + row[0], row[1], x.key(0, row[0], 1));
        }
        VillageHalls y = new VillageHalls();
        for (int i = 0; i < 40; i++) {
            y.give(0, 0, 1, 0);
        }
        due("all but the first of forty", 39, y.key(0, 0, 1));
    }

    private void refusedKeys() {
        holds(21, "BAD.");
        VillageHalls x = new VillageHalls();
        for (int bad : new int[] {-1, 4, MIN, MAX}) {
            bad("KEY " + bad, x.key(bad, 0, 0));
        }
        for (int bad : new int[] {-1, 365, MIN, MAX}) {
            bad("day " + bad, x.key(0, bad, 0));
        }
        for (int bad : new int[] {-1, 2, MIN, MAX}) {
            bad("what " + bad, x.key(0, 0, bad));
        }
    }
}
