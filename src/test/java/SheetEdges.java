/** Promises 1 to 5. */
final class SheetEdges extends Edges {
    SheetEdges(Check check, Document document) {
        super(check, document);
    }

    @Override
    void all() {
        aNewObject();
        aNewObjectBesideAUsedOne();
        sheetsThereAre();
        itemsAreZeroAtFirst();
        inPlaceOfWhatIsThere();
        refusedSheets();
        lowestBits();
        whatIsSetIsKept();
        refusedSets();
        copiesAsTheyWereAhead();
        copiesOfNoneAndOfAll();
        refusedCopies();
        droppedSheets();
        refusedDrops();
    }

    private void dueAsAtFirst(VillageHalls x) {
        for (int what = 0; what <= 8; what++) {
            due("count(" + what + ")", 0, x.count(what));
        }
        due("status()", 0, x.status());
        due("fault()", 0, x.fault());
        due("trace(0)", NONE, x.trace(0));
        due("rules()", 0, x.rules());
        due("holding(364, 1)", 0, x.holding(364, 1));
        due("key(0, 364, 0)", NONE, x.key(0, 364, 0));
        due("run(0, 364, 96)", 0, x.run(0, 364, 96));
        due("home(0, 0)", NONE, x.home(0, 0));
        bad("told(0, 0)", x.told(0, 0));
        bad("met(0, 0)", x.met(0, 0));
        int[] first = {2, 12, 7, 50, 100, 100};
        for (int h = 0; h < 4; h++) {
            for (int what = 0; what < 6; what++) {
                due("hall(" + h + ", " + what + ")", first[what], x.hall(h, what));
            }
            for (int use = 0; use < 5; use++) {
                due("RATE", 10, x.hall(h, 10 + use));
                due("RANK", use, x.hall(h, 20 + use));
            }
        }
        due("day(1)", 0, x.day(1));
        for (int s = 0; s < 8; s++) {
            due("drop(" + s + ")", NULL, x.drop(s));
        }
    }

    private void aNewObject() {
        holds(1, "All as at first.");
        dueAsAtFirst(new VillageHalls());
    }

    private void aNewObjectBesideAUsedOne() {
        holds(1, "All as at first.");
        VillageHalls used = ruled("hall 0 setup 0 licences 0 late 0 0 fire 0 0 rate club 0 first school;");
        rules(used, "!");
        used.feed(0, 8);
        book(used, 0, 1, 5, 1, 2, 1, 0, 0, 0);
        used.ask(0, 0);
        used.coin(0, 1, 1, 1);
        used.give(0, 1, 2, 0);
        used.look(0, 1, 1, 0);
        used.look(0, 9, 1, 1);
        used.meeting(1, 1, 0, 0, NONE);
        used.day(9);
        used.drop(0);
        dueAsAtFirst(new VillageHalls());
    }

    private void sheetsThereAre() {
        holds(2, "SHEETS 0 .. 7 are missing (at first), or have a LANE (0 bytes, 1 shorts, 2 ints) and 0 to 60 "
            + "ITEMS,");
        VillageHalls x = new VillageHalls();
        for (int s = 0; s < 8; s++) {
            due("set of missing " + s, NULL, x.set(s, 0, 0));
            due("sheet(" + s + ", 0, 0)", 0, x.sheet(s, 0, 0));
            due("SHEETS", s + 1, x.count(0));
            due("place 0 of none", PLACE, x.set(s, 0, 0));
            due("sheet(" + s + ", 1, 1)", 1, x.sheet(s, 1, 1));
            due("place 0 of one", 7, x.set(s, 0, 7));
            due("place 1 of one", PLACE, x.set(s, 1, 7));
            due("sheet(" + s + ", 2, 60)", 60, x.sheet(s, 2, 60));
            due("place 59", 70000, x.set(s, 59, 70000));
            due("place 60", PLACE, x.set(s, 60, 7));
        }
        bad("sheet 8", x.sheet(8, 0, 0));
        bad("lane 3", x.sheet(0, 3, 0));
        bad("61 items", x.sheet(0, 2, 61));
    }

    private void itemsAreZeroAtFirst() {
        holds(2, "0 at first.");
        for (int lane = 0; lane < 3; lane++) {
            VillageHalls x = new VillageHalls();
            x.sheet(0, lane, 60);
            for (int i = 0; i < 60; i++) {
                x.set(0, i, 1);
            }
            x.drop(0);
            due("laid anew", 60, x.sheet(0, lane, 60));
            for (int n = 0; n < 7; n++) {
                int i = n < 6 ? 9 * n : 51;
                x.set(0, i + 4, 8);
                x.set(0, i + 5, 3);
                due("book(0, " + i + ")", n, x.book(0, i));
                x.set(0, i + 4, 0);
                x.set(0, i + 5, 0);
                for (int what = 0; what < 9; what++) {
                    due("item " + (i + what), what == 4 ? 8 : what == 5 ? 3 : 0, x.told(n, what));
                }
            }
        }
    }

    private void inPlaceOfWhatIsThere() {
        holds(2, "A SHEET of a LANE with n ITEMS, in place of what is there: n.");
        VillageHalls x = new VillageHalls();
        due("60 ints", 60, x.sheet(0, 2, 60));
        due("one byte in their place", 1, x.sheet(0, 0, 1));
        due("it is one sheet", 1, x.count(0));
        due("it has bytes", 44, x.set(0, 0, 300));
        due("it has one item", PLACE, x.set(0, 1, 0));
        due("no items in its place", 0, x.sheet(0, 1, 0));
        due("it is there still", 1, x.count(0));
        due("it has none", 0, x.drop(0));
        due("the other sheets stay missing", NULL, x.drop(1));
    }

    private void refusedSheets() {
        holds(2, "BAD: SHEET, LANE, n above 60; SIZE.");
        VillageHalls x = new VillageHalls();
        for (int s : new int[] {-1, 8, MIN, MAX}) {
            bad("sheet(" + s + ", 0, 1)", x.sheet(s, 0, 1));
            bad("sheet(" + s + ", 0, -1)", x.sheet(s, 0, -1));
        }
        for (int lane : new int[] {-1, 3, MIN, MAX}) {
            bad("sheet(0, " + lane + ", 1)", x.sheet(0, lane, 1));
            bad("sheet(0, " + lane + ", -1)", x.sheet(0, lane, -1));
        }
        bad("sheet(0, 0, 61)", x.sheet(0, 0, 61));
        bad("sheet(0, 0, MAX)", x.sheet(0, 0, MAX));
        due("none is laid", 0, x.count(0));
        due("sheet(0, 0, -1)", SIZE, x.sheet(0, 0, -1));
        due("sheet(7, 2, MIN)", SIZE, x.sheet(7, 2, MIN));
        due("none is laid", 0, x.count(0));
        due("sheet(7, 2, 60)", 60, x.sheet(7, 2, 60));
        due("sheet(7, 2, -1)", SIZE, x.sheet(7, 2, -1));
        bad("sheet(7, 2, 61)", x.sheet(7, 2, 61));
        due("the one that is there stays", 60, x.drop(7));
    }

    private void lowestBits() {
        holds(3, "ITEM i becomes v, its lowest bits, as many as the LANE has: what it is then.");
        VillageHalls x = new VillageHalls();
        x.sheet(0, 0, 1);
        x.sheet(1, 1, 1);
        x.sheet(2, 2, 1);
        int[][] rows = {{0, 0, 0, 0}, {127, 127, 127, 127}, {128, -128, 128, 128}, {255, -1, 255, 255},
            {256, 0, 256, 256}, {383, 127, 383, 383}, {-1, -1, -1, -1}, {-128, -128, -128, -128},
            {-129, 127, -129, -129}, {-256, 0, -256, -256}, {32767, -1, 32767, 32767}, {32768, 0, -32768, 32768},
            {65535, -1, -1, 65535}, {65536, 0, 0, 65536}, {-32768, 0, -32768, -32768}, {-32769, -1, 32767, -32769},
            {MAX, -1, -1, MAX}, {MIN, 0, 0, MIN}};
        for (int[] row : rows) {
            for (int lane = 0; lane < 3; lane++) {
                due("lane " + lane + ", v " + row[0], row[1 + lane], x.set(lane, 0, row[0]));
            }
        }
    }

    private void whatIsSetIsKept() {
        holds(3, "ITEM i becomes v, its lowest bits, as many as the LANE has: what it is then.");
        int[] items = {3, 1, 120, 40, 96, 99, 4, 1, 119};
        for (int lane = 0; lane < 2; lane++) {
            int more = lane == 0 ? 256 : 65536;
            VillageHalls x = new VillageHalls();
            x.sheet(0, lane, 9);
            for (int i = 0; i < 9; i++) {
                due("set(0, " + i + ")", items[i], x.set(0, i, items[i] + (i % 2 == 0 ? more : -more)));
            }
            due("book", 0, x.book(0, 0));
            for (int i = 0; i < 9; i++) {
                due("told(0, " + i + ")", items[i], x.told(0, i));
            }
        }
    }

    private void refusedSets() {
        holds(3, "BAD: SHEET; NULL; PLACE.");
        VillageHalls x = new VillageHalls();
        for (int s : new int[] {-1, 8, MIN, MAX}) {
            bad("set(" + s + ", 0, 0)", x.set(s, 0, 0));
        }
        due("missing", NULL, x.set(7, 0, 0));
        due("missing, and no such place", NULL, x.set(7, -1, 0));
        x.sheet(7, 2, 3);
        for (int i : new int[] {-1, 3, MIN, MAX}) {
            due("set(7, " + i + ", 0)", PLACE, x.set(7, i, 0));
        }
        due("the last place", 5, x.set(7, 2, 5));
        x.drop(7);
        due("missing again", NULL, x.set(7, 2, 5));
    }

    private static VillageHalls filled(int[] items, int shift) {
        VillageHalls x = new VillageHalls();
        x.sheet(0, 2, 12);
        for (int i = 0; i < items.length; i++) {
            x.set(0, i + shift, items[i]);
        }
        return x;
    }

    private void copiesAsTheyWereAhead() {
        holds(4, "n ITEMS of a from i on come to b from j on, as they were ahead: n.");
        int[] items = {3, 1, 7, 10, 20, 30, 2, 1, 5};
        for (int from = 0; from <= 3; from++) {
            for (int to = 0; to <= 3; to++) {
                VillageHalls x = filled(items, from);
                due("copy(0, " + from + ", 0, " + to + ", 9)", 9, x.copy(0, from, 0, to, 9));
                due("book", 0, x.book(0, to));
                for (int i = 0; i < 9; i++) {
                    due("item " + i + " from " + from + " to " + to, items[i], x.told(0, i));
                }
            }
        }
        VillageHalls y = filled(items, 0);
        y.sheet(1, 2, 9);
        due("to another", 9, y.copy(0, 0, 1, 0, 9));
        y.set(0, 5, 77);
        due("book of the copy", 0, y.book(1, 0));
        due("what is set later stays away from it", 30, y.told(0, 5));
        due("book of the first", 1, y.book(0, 0));
        due("it has it", 77, y.told(1, 5));
    }

    private void copiesOfNoneAndOfAll() {
        holds(4, "n ITEMS of a from i on come to b from j on, as they were ahead: n.");
        VillageHalls x = new VillageHalls();
        x.sheet(0, 1, 60);
        x.sheet(1, 1, 60);
        x.sheet(2, 1, 0);
        due("all sixty", 60, x.copy(0, 0, 1, 0, 60));
        due("all sixty onto themselves", 60, x.copy(0, 0, 0, 0, 60));
        due("none at the ends", 0, x.copy(0, 60, 1, 60, 0));
        due("none of none", 0, x.copy(2, 0, 2, 0, 0));
        due("none to none", 0, x.copy(0, 7, 2, 0, 0));
        due("the last one", 1, x.copy(0, 59, 1, 59, 1));
    }

    private void refusedCopies() {
        holds(4, "BAD: SHEETS; NULL; STORE; PLACE (i, j, n below 0, or beyond an end).");
        VillageHalls x = new VillageHalls();
        x.sheet(0, 2, 5);
        x.sheet(1, 2, 4);
        x.sheet(2, 1, 5);
        for (int s : new int[] {-1, 8, MIN, MAX}) {
            bad("copy(" + s + ", ..)", x.copy(s, 0, 0, 0, 1));
            bad("copy(.., " + s + ", ..)", x.copy(0, 0, s, 0, 1));
            bad("copy(3, .., " + s + ", ..), 3 missing", x.copy(3, 0, s, 0, 1));
        }
        due("a missing", NULL, x.copy(3, 0, 0, 0, 1));
        due("b missing", NULL, x.copy(0, 0, 3, 0, 1));
        due("one missing twice", NULL, x.copy(3, 0, 3, 0, 0));
        due("NULL ahead of PLACE", NULL, x.copy(0, -1, 3, 0, 1));
        due("two lanes", STORE, x.copy(0, 0, 2, 0, 1));
        due("two lanes the other way", STORE, x.copy(2, 0, 0, 0, 1));
        due("two lanes, none to copy", STORE, x.copy(0, 0, 2, 0, 0));
        due("STORE ahead of PLACE", STORE, x.copy(0, -1, 2, -1, -1));
        int[][] beyond = {{-1, 0, 1}, {0, -1, 1}, {0, 0, -1}, {1, 1, -1}, {5, 0, 1}, {0, 4, 1}, {0, 0, 5}, {2, 0, 4},
            {6, 0, 0}, {0, 5, 0}, {-1, 0, 0}, {0, -1, 0}, {MAX, 0, 1}, {0, MAX, 1}, {MAX, 0, MAX}, {0, MAX, MAX},
            {1, 1, MAX}, {0, 0, MIN}, {MIN, 0, 1}, {0, MIN, 1}, {MIN, MIN, MIN}, {MAX, MAX, MIN}};
        for (int[] p : beyond) {
            due("copy(0, " + p[0] + ", 1, " + p[1] + ", " + p[2] + ")", PLACE, x.copy(0, p[0], 1, p[1], p[2]));
        }
        due("up to both ends", 4, x.copy(0, 1, 1, 0, 4));
    }

    private void droppedSheets() {
        holds(5, "A SHEET is missing from now on: how many ITEMS it had.");
        VillageHalls x = new VillageHalls();
        for (int n : new int[] {0, 1, 60}) {
            x.sheet(7, 0, n);
            due("drop of " + n, n, x.drop(7));
            due("it is missing", NULL, x.set(7, 0, 0));
            due("none is there", 0, x.count(0));
        }
        x.sheet(0, 2, 3);
        x.sheet(1, 2, 4);
        due("one of two", 3, x.drop(0));
        due("the other stays", 4, x.drop(1));
    }

    private void refusedDrops() {
        holds(5, "BAD; NULL.");
        VillageHalls x = new VillageHalls();
        for (int s : new int[] {-1, 8, MIN, MAX}) {
            bad("drop(" + s + ")", x.drop(s));
        }
        due("never laid", NULL, x.drop(0));
        x.sheet(0, 0, 0);
        due("laid with none", 0, x.drop(0));
        due("dropped already", NULL, x.drop(0));
    }
}
