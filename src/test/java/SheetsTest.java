/** Promises 2 to 5, and what they leave in status (32) and count (31). */
public final class SheetsTest {
    private static final Check CHECK = new Check("SheetsTest");

    public static void main(String[] args) {
        layingSheets();
        settingItems();
        copyingItems();
        copyingOverItself();
        dropping();
        CHECK.end();
    }

    private static void layingSheets() {
        VillageHalls x = new VillageHalls();
        CHECK.due("sheet(-1, 0, 1)", Check.BAD, x.sheet(-1, 0, 1));
        CHECK.due("sheet(8, 0, 1)", Check.BAD, x.sheet(8, 0, 1));
        CHECK.due("sheet(0, -1, 1)", Check.BAD, x.sheet(0, -1, 1));
        CHECK.due("sheet(0, 3, 1)", Check.BAD, x.sheet(0, 3, 1));
        CHECK.due("sheet(0, 0, 61)", Check.BAD, x.sheet(0, 0, 61));
        CHECK.due("BAD is ahead of SIZE", Check.BAD, x.sheet(0, 3, -1));
        CHECK.due("BAD leaves status", 0, x.status());
        CHECK.due("sheet(0, 2, -1)", Check.SIZE, x.sheet(0, 2, -1));
        CHECK.due("status of SIZE", 4, x.status());
        CHECK.due("SIZE lays none", 0, x.count(0));
        CHECK.due("sheet(0, 2, MIN)", Check.SIZE, x.sheet(0, 2, Integer.MIN_VALUE));
        CHECK.due("sheet(0, 9, 1) BAD", Check.BAD, x.sheet(0, 9, 1));
        CHECK.due("status stays at BAD", 4, x.status());
        CHECK.due("sheet(0, 2, 0)", 0, x.sheet(0, 2, 0));
        CHECK.due("status is none again", 0, x.status());
        CHECK.due("sheet(7, 1, 60)", 60, x.sheet(7, 1, 60));
        CHECK.due("two sheets", 2, x.count(0));
        CHECK.due("an empty sheet has no place 0", Check.PLACE, x.set(0, 0, 1));
        CHECK.due("set(7, 59, 5)", 5, x.set(7, 59, 5));
        CHECK.due("in place of what is there", 60, x.sheet(7, 1, 60));
        laidAnewItIsZero();
        CHECK.due("SIZE leaves the sheet", Check.SIZE, x.sheet(7, 0, -5));
        CHECK.due("as it was", 60, x.drop(7));
    }

    private static void laidAnewItIsZero() {
        VillageHalls x = new VillageHalls();
        x.sheet(0, 2, 9);
        for (int i = 0; i < 9; i++) {
            x.set(0, i, 1);
        }
        x.sheet(0, 2, 9);
        x.set(0, 4, 8);
        x.set(0, 5, 3);
        CHECK.due("book of a sheet laid anew", 0, x.book(0, 0));
        for (int i = 0; i < 9; i++) {
            CHECK.due("item " + i, i == 4 ? 8 : i == 5 ? 3 : 0, x.told(0, i));
        }
    }

    private static void settingItems() {
        VillageHalls x = new VillageHalls();
        CHECK.due("set(8, 0, 0)", Check.BAD, x.set(8, 0, 0));
        CHECK.due("set(-1, 0, 0)", Check.BAD, x.set(-1, 0, 0));
        CHECK.due("set of a missing one", Check.NULL, x.set(0, 0, 0));
        CHECK.due("status NULL", 1, x.status());
        x.sheet(0, 0, 3);
        x.sheet(1, 1, 3);
        x.sheet(2, 2, 3);
        CHECK.due("bytes 127", 127, x.set(0, 0, 127));
        CHECK.due("bytes 128", -128, x.set(0, 0, 128));
        CHECK.due("bytes -129", 127, x.set(0, 0, -129));
        CHECK.due("bytes 511", -1, x.set(0, 2, 511));
        CHECK.due("shorts 128", 128, x.set(1, 0, 128));
        CHECK.due("shorts 32767", 32767, x.set(1, 0, 32767));
        CHECK.due("shorts 32768", -32768, x.set(1, 0, 32768));
        CHECK.due("shorts 65536", 0, x.set(1, 0, 65536));
        CHECK.due("ints 65536", 65536, x.set(2, 0, 65536));
        CHECK.due("ints MIN", Integer.MIN_VALUE, x.set(2, 0, Integer.MIN_VALUE));
        CHECK.due("place -1", Check.PLACE, x.set(2, -1, 0));
        CHECK.due("status PLACE", 2, x.status());
        CHECK.due("place 3", Check.PLACE, x.set(2, 3, 0));
        CHECK.due("place MAX", Check.PLACE, x.set(2, Integer.MAX_VALUE, 0));
    }

    private static void copyingItems() {
        VillageHalls x = new VillageHalls();
        x.sheet(0, 2, 5);
        CHECK.due("copy(8, ..)", Check.BAD, x.copy(8, 0, 0, 0, 1));
        CHECK.due("copy(.., -1, ..)", Check.BAD, x.copy(0, 0, -1, 0, 1));
        CHECK.due("BAD is ahead of NULL", Check.BAD, x.copy(1, 0, 8, 0, 1));
        CHECK.due("from a missing one", Check.NULL, x.copy(1, 0, 0, 0, 1));
        CHECK.due("to a missing one", Check.NULL, x.copy(0, 0, 1, 0, 1));
        CHECK.due("NULL is ahead of PLACE", Check.NULL, x.copy(0, 9, 1, 0, 1));
        x.sheet(1, 1, 5);
        CHECK.due("two lanes", Check.STORE, x.copy(0, 0, 1, 0, 1));
        CHECK.due("status STORE", 5, x.status());
        CHECK.due("STORE is ahead of PLACE", Check.STORE, x.copy(0, 9, 1, 0, -1));
        CHECK.due("STORE with none to copy", Check.STORE, x.copy(0, 0, 1, 0, 0));
        x.sheet(1, 2, 4);
        CHECK.due("i below 0", Check.PLACE, x.copy(0, -1, 1, 0, 1));
        CHECK.due("j below 0", Check.PLACE, x.copy(0, 0, 1, -1, 1));
        CHECK.due("n below 0", Check.PLACE, x.copy(0, 1, 1, 1, -1));
        CHECK.due("beyond a's end", Check.PLACE, x.copy(0, 3, 1, 0, 3));
        CHECK.due("beyond b's end", Check.PLACE, x.copy(0, 0, 1, 0, 5));
        CHECK.due("i and n wrap", Check.PLACE, x.copy(0, Integer.MAX_VALUE, 1, 0, 2));
        CHECK.due("j and n wrap", Check.PLACE, x.copy(0, 0, 1, Integer.MAX_VALUE, 2));
        CHECK.due("n MAX", Check.PLACE, x.copy(0, 1, 1, 1, Integer.MAX_VALUE));
        CHECK.due("none at the ends", 0, x.copy(0, 5, 1, 4, 0));
        CHECK.due("none beyond the end", Check.PLACE, x.copy(0, 6, 1, 4, 0));
        CHECK.due("all of b", 4, x.copy(0, 1, 1, 0, 4));
        CHECK.due("status none", 0, x.status());
    }

    // What lies on a sheet is seen by the bookings that are made of it.
    private static void copyingOverItself() {
        int[] items = {3, 0, 1, 7, 10, 20, 30, 2, 1, 5};
        VillageHalls x = new VillageHalls();
        x.sheet(0, 2, 12);
        for (int i = 0; i < items.length; i++) {
            x.set(0, i, items[i]);
        }
        CHECK.due("upwards, over itself", 9, x.copy(0, 1, 0, 2, 9));
        CHECK.due("book", 0, x.book(0, 2));
        VillageHalls y = new VillageHalls();
        y.sheet(0, 2, 12);
        for (int i = 0; i < items.length; i++) {
            y.set(0, i + 2, items[i]);
        }
        CHECK.due("downwards, over itself", 10, y.copy(0, 2, 0, 1, 10));
        CHECK.due("book", 0, y.book(0, 2));
        for (int i = 0; i < 9; i++) {
            CHECK.due("told(0, " + i + ") when up", items[i + 1], x.told(0, i));
            CHECK.due("told(0, " + i + ") when down", items[i + 1], y.told(0, i));
        }
    }

    private static void dropping() {
        VillageHalls x = new VillageHalls();
        CHECK.due("drop(8)", Check.BAD, x.drop(8));
        CHECK.due("drop(-1)", Check.BAD, x.drop(-1));
        CHECK.due("drop of a missing one", Check.NULL, x.drop(3));
        CHECK.due("status NULL", 1, x.status());
        x.sheet(3, 0, 17);
        CHECK.due("drop(3)", 17, x.drop(3));
        CHECK.due("status none", 0, x.status());
        CHECK.due("it is missing", Check.NULL, x.set(3, 0, 0));
        CHECK.due("drop(3) again", Check.NULL, x.drop(3));
        CHECK.due("no sheets", 0, x.count(0));
        CHECK.due("laid anew", 2, x.sheet(3, 2, 2));
        CHECK.due("with its own size", Check.PLACE, x.set(3, 2, 1));
    }
}
