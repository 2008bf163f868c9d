import java.util.ArrayList;
import java.util.List;
import java.util.function.ToIntFunction;

/** What is refused: the order of refusals, their numbers, and that they change nothing but status(). */
final class RefusalEdges extends Edges {
    RefusalEdges(Check check, Document document) {
        super(check, document);
    }

    @Override
    void all() {
        numbersOfFindings();
        theFirstThatFits();
        refusedCallsChangeNothing();
        fullCallsChangeNothing();
        foundCallsChangeStatusAlone();
    }

    private void numbersOfFindings() {
        holds(32, "then FINDINGS, of several the first in time: -1000010 less 1 NULL (a SHEET that is missing), 2 "
            + "PLACE (no such place of a SHEET), 3 KIND (a BOOKING that is not that), 4 SIZE (fewer than none), 5 "
            + "STORE (SHEETS of two LANES).");
        VillageHalls x = furnished();
        int[] found = {x.drop(2), x.set(1, 3, 0), x.as(0, 3), x.sheet(0, 0, -1), x.copy(0, 0, 1, 0, 1)};
        for (int n = 1; n <= 5; n++) {
            due("FINDING " + n, -1000010 - n, found[n - 1]);
        }
        due("NULL ahead of STORE and PLACE", -1000011, x.copy(2, -1, 1, 9, -1));
        due("STORE ahead of PLACE", -1000015, x.copy(0, -1, 1, 9, -1));
    }

    private void theFirstThatFits() {
        holds(10, "Refusals are answers, the first of these that fits: BAD (a number is not as told; there is no "
            + "such thing), STATE (as told), FULL (as told),");
        due("NONE", -1000000, VillageHalls.NONE);
        due("BAD", -1000001, VillageHalls.BAD);
        due("STATE", -1000002, VillageHalls.STATE);
        due("FULL", -1000003, VillageHalls.FULL);
        VillageHalls x = full();
        bad("BAD ahead of FULL: book", x.book(8, 0));
        due("FULL ahead of NULL: book", FULL, x.book(2, 0));
        due("FULL ahead of PLACE: book", FULL, x.book(0, 1));
        bad("BAD ahead of FULL: feed", x.feed(0, 0));
        bad("BAD ahead of FULL: coin", x.coin(4, 0, 0, 1));
        bad("BAD ahead of FULL: give", x.give(0, 1, 1, 0));
        bad("BAD ahead of FULL: look", x.look(0, 0, 0, 256));
        bad("BAD ahead of FULL: meeting", x.meeting(1, 1, 1, 0, NONE));
        x.cancel(0, 0);
        bad("BAD ahead of STATE: cancel", x.cancel(0, 365));
        due("STATE: cancel", STATE, x.cancel(0, 0));
    }

    /** One of most things: sheets 0 (nine ints), 1 (three shorts), 3 (nine zeros); the others are missing. */
    private static VillageHalls furnished() {
        VillageHalls x = ruled("hall 0 setup 3 fire 1 60 rate party 7 first party late 9 40;");
        rules(x, "hall 4");
        int[] items = {0, 0, 100, 40, 48, 30, 1, 1, 10};
        x.sheet(0, 2, 9);
        for (int i = 0; i < 9; i++) {
            x.set(0, i, items[i]);
        }
        x.book(0, 0);
        x.set(0, 3, 44);
        x.book(0, 0);
        x.set(0, 1, 1);
        x.book(0, 0);
        x.sheet(1, 1, 3);
        x.sheet(3, 1, 9);
        x.cancel(2, 30);
        x.coin(0, 100, 40, 50);
        x.give(0, 1, 2, 20);
        x.look(0, 100, 30, 0);
        x.look(0, 100, 60, 1);
        x.meeting(9, 5, 4, 9, NONE);
        Check.feed(x, "hall 0 setup 5;");
        x.day(50);
        x.ask(0, 1);
        return x;
    }

    /** As many of all things as there may be. */
    private static VillageHalls full() {
        VillageHalls x = new VillageHalls();
        Check.feed(x, "hall 0 setup 5;" + " ".repeat(385));
        int[] items = {0, 0, 0, 40, 48, 30, 1, 1, 0};
        x.sheet(0, 2, 9);
        for (int i = 0; i < 9; i++) {
            x.set(0, i, items[i]);
        }
        for (int k = 0; k < 16; k++) {
            x.set(0, 2, 100 + k);
            x.book(0, 0);
        }
        for (int i = 0; i < 40; i++) {
            x.coin(i % 4, i, i, 60 + i);
            x.give(i % 4, i % 10, (i + 4) % 10, i);
            x.look(i % 4, 100 + i, 0, i < 16 ? 0 : 1);
        }
        for (int m = 0; m < 10; m++) {
            x.meeting(9, 5, 4, 9, m == 0 ? NONE : m - 1);
        }
        x.day(50);
        x.ask(15, 1);
        return x;
    }

    /** All that can be asked of an object, but for status(); what lies on the tape and the sheets comes last. */
    private static List<Integer> allOf(VillageHalls x) {
        List<Integer> told = new ArrayList<>();
        for (int i = 0; i <= 8; i++) {
            told.add(x.count(i));
            told.add(x.trace(i));
        }
        told.add(x.fault());
        for (int what = 0; what < 25; what++) {
            told.add(x.hall(0, what));
        }
        for (int k = 0; k < 16; k++) {
            told.add(x.told(k, 2));
            told.add(x.told(k, 9));
            told.add(x.kind(k));
        }
        for (int i = 0; i < 4; i++) {
            told.add(x.holding(i * 15, 0));
            told.add(x.holding(i * 15, 1));
            told.add(x.most(0, 0, 100 + i, 1));
            told.add(x.funeral(0, 100, 40, 50, 1, i));
            told.add(x.run(i, 364, 96));
            told.add(x.key(i, 364, 0));
            told.add(x.key(i, 364, 1));
            told.add(x.home(i, 0));
        }
        for (int m = 0; m < 10; m++) {
            told.add(x.met(m, 1));
            told.add(x.met(m, 2));
        }
        told.add(x.rules());
        told.add(x.hall(0, 0));
        told.add(x.coin(0, 364, 95, 1));
        told.add(x.give(0, 0, 1, 364));
        told.add(x.look(0, 364, 95, 1));
        told.add(x.meeting(1, 0, 0, 0, NONE));
        told.add(x.book(0, 0));
        for (int what = 0; what < 9; what++) {
            told.add(x.told(3, what));
        }
        for (int s = 0; s < 8; s++) {
            told.add(x.copy(s, 0, 0, 0, 0));
        }
        for (int s = 0; s < 8; s++) {
            told.add(x.drop(s));
        }
        told.add(x.day(0));
        return told;
    }

    private void changesNothing(VillageHalls x, VillageHalls twin, String call, int want,
            ToIntFunction<VillageHalls> of) {
        due(call, want, of.applyAsInt(x));
        int finding = want <= -1000011 ? -1000010 - want : twin.status();
        due(call + ", status()", finding, x.status());
        List<Integer> one = allOf(x);
        List<Integer> other = allOf(twin);
        for (int i = 0; i < one.size(); i++) {
            due(call + ", answer " + i + " behind it", other.get(i), one.get(i));
        }
    }

    private void refused(int promise, String call, int want, ToIntFunction<VillageHalls> of) {
        holds(promise, "What is refused, or found, changes nothing but status().");
        changesNothing(furnished(), furnished(), call, want, of);
    }

    private void refusedCallsChangeNothing() {
        refused(2, "sheet(8, 0, 1)", BAD, x -> x.sheet(8, 0, 1));
        refused(2, "sheet(0, 3, 1)", BAD, x -> x.sheet(0, 3, 1));
        refused(2, "sheet(0, 0, 61)", BAD, x -> x.sheet(0, 0, 61));
        refused(3, "set(8, 0, 1)", BAD, x -> x.set(8, 0, 1));
        refused(4, "copy(0, 0, 8, 0, 1)", BAD, x -> x.copy(0, 0, 8, 0, 1));
        refused(5, "drop(8)", BAD, x -> x.drop(8));
        refused(6, "feed(.., 9)", BAD, x -> x.feed(0x3B3B3B, 9));
        refused(6, "feed(.., 0)", BAD, x -> x.feed(0x3B3B3B, 0));
        refused(9, "hall(4, 0)", BAD, x -> x.hall(4, 0));
        refused(10, "book(8, 0)", BAD, x -> x.book(8, 0));
        refused(10, "book(3, 0)", BAD, x -> x.book(3, 0));
        refused(11, "cancel(0, 9)", BAD, x -> x.cancel(0, 9));
        refused(11, "cancel(3, 50)", BAD, x -> x.cancel(3, 50));
        refused(11, "cancel(2, 40)", STATE, x -> x.cancel(2, 40));
        refused(12, "told(3, 0)", BAD, x -> x.told(3, 0));
        refused(13, "clash(0, 0)", BAD, x -> x.clash(0, 0));
        refused(14, "holding(365, 0)", BAD, x -> x.holding(365, 0));
        refused(15, "most(0, 2, 0, 0)", BAD, x -> x.most(0, 2, 0, 0));
        refused(16, "funeral(0, 100, 5, 5, 1, 0)", BAD, x -> x.funeral(0, 100, 5, 5, 1, 0));
        refused(17, "coin(0, 0, 96, 1)", BAD, x -> x.coin(0, 0, 96, 1));
        refused(18, "run(0, 0, 97)", BAD, x -> x.run(0, 0, 97));
        refused(19, "meter(0, 0, 0, -1)", BAD, x -> x.meter(0, 0, 0, -1));
        refused(20, "give(0, 2, 2, 30)", BAD, x -> x.give(0, 2, 2, 30));
        refused(21, "key(0, 0, 2)", BAD, x -> x.key(0, 0, 2));
        refused(22, "look(0, 0, 96, 1)", BAD, x -> x.look(0, 0, 96, 1));
        refused(23, "home(0, 8)", BAD, x -> x.home(0, 8));
        refused(24, "meeting(9, 5, 4, 9, 1)", BAD, x -> x.meeting(9, 5, 4, 9, 1));
        refused(25, "met(1, 0)", BAD, x -> x.met(1, 0));
        refused(26, "day(365)", BAD, x -> x.day(365));
        refused(27, "kind(3)", BAD, x -> x.kind(3));
        refused(28, "as(0, 5)", BAD, x -> x.as(0, 5));
        refused(29, "ask(0, 2)", BAD, x -> x.ask(0, 2));
        refused(29, "ask(3, 0)", BAD, x -> x.ask(3, 0));
        refused(30, "trace(-1)", NONE, x -> x.trace(-1));
        refused(31, "count(9)", BAD, x -> x.count(9));
    }

    private void whenFull(int promise, String call, ToIntFunction<VillageHalls> of) {
        holds(promise, "What is refused, or found, changes nothing but status().");
        changesNothing(full(), full(), call, FULL, of);
    }

    private void fullCallsChangeNothing() {
        whenFull(6, "feed of one byte", x -> x.feed(';', 1));
        whenFull(6, "feed of eight bytes", x -> x.feed(-1, 8));
        whenFull(10, "book(0, 0)", x -> x.book(0, 0));
        whenFull(17, "coin(0, 0, 0, 600)", x -> x.coin(0, 0, 0, 600));
        whenFull(20, "give(0, 9, 8, 0)", x -> x.give(0, 9, 8, 0));
        whenFull(22, "look(0, 99, 0, 1)", x -> x.look(0, 99, 0, 1));
        whenFull(24, "meeting(9, 5, 4, 9, 0)", x -> x.meeting(9, 5, 4, 9, 0));
    }

    private void foundCallsChangeStatusAlone() {
        refused(2, "sheet(0, 1, -1)", SIZE, x -> x.sheet(0, 1, -1));
        refused(2, "sheet(2, 1, -1)", SIZE, x -> x.sheet(2, 1, -1));
        refused(3, "set(2, 0, 1)", NULL, x -> x.set(2, 0, 1));
        refused(3, "set(0, 9, 1)", PLACE, x -> x.set(0, 9, 1));
        refused(3, "set(1, -1, 1)", PLACE, x -> x.set(1, -1, 1));
        refused(4, "copy(3, 0, 2, 0, 9)", NULL, x -> x.copy(3, 0, 2, 0, 9));
        refused(4, "copy(3, 0, 0, 0, 9)", STORE, x -> x.copy(3, 0, 0, 0, 9));
        refused(4, "copy(0, 0, 0, 1, 9)", PLACE, x -> x.copy(0, 0, 0, 1, 9));
        refused(4, "copy(0, 1, 0, 0, 9)", PLACE, x -> x.copy(0, 1, 0, 0, 9));
        refused(5, "drop(2)", NULL, x -> x.drop(2));
        refused(10, "book(2, 0)", NULL, x -> x.book(2, 0));
        refused(10, "book(0, 1)", PLACE, x -> x.book(0, 1));
        refused(28, "as(0, 3)", KIND, x -> x.as(0, 3));
    }
}
