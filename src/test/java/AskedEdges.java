/** Promises 26 to 32: the day, kinds, asks and their trace, counts, status. */
final class AskedEdges extends Edges {
    AskedEdges(Check check, Document document) {
        super(check, document);
    }

    @Override
    void all() {
        daysThereAre();
        refusedDays();
        kindsByDays();
        firmOnes();
        toldAsTheFirstThatFits();
        refusedKinds();
        takenAs();
        refusedAs();
        sizes();
        marks();
        bodiesThatBegin();
        firstSixteen();
        asksThereAre();
        refusedAsks();
        emptyAheadOfIt();
        placesOfTheTrace();
        counts();
        refusedCounts();
        statusOfFindings();
        statusOfOthers();
    }

    private void daysThereAre() {
        holds(26, "Days are 0 to 364, QUARTERS of a day 0 to 96 (hours by 4).");
        VillageHalls x = new VillageHalls();
        due("day(364)", 0, x.day(364));
        due("day(0)", 364, x.day(0));
        bad("day(365)", x.day(365));
        bad("day(-1)", x.day(-1));
        due("QUARTER 96", 0, x.run(0, 364, 96));
        bad("QUARTER 97", x.run(0, 364, 97));
    }

    private void refusedDays() {
        holds(26, "THE DAY: what it was. BAD.");
        VillageHalls x = new VillageHalls();
        due("0 at first", 0, x.day(7));
        for (int bad : new int[] {-1, 365, MIN, MAX}) {
            bad("day(" + bad + ")", x.day(bad));
        }
        due("it stays when refused", 7, x.day(7));
        due("it was 7", 7, x.day(8));
    }

    /** 0 FIRM, 1 HELD, 2 OUT, each from day 50 on; 3 HELD from day 50 on and GONE from day 60 on. */
    private static VillageHalls four() {
        VillageHalls x = ruled("hall 0 first party rate party 20 rate club 5;");
        book(x, 0, 0, 100, 40, 48, 30, 1, 0, 50);
        book(x, 0, 0, 101, 60, 64, 25, 2, 0, 50);
        book(x, 0, 0, 101, 63, 66, 7, 4, 0, 50);
        book(x, 0, 1, 61, 40, 48, 11, 2, 0, 50);
        x.cancel(3, 60);
        return x;
    }

    private void kindsByDays() {
        holds(27, "KINDS (AS KNOWN on THE DAY, 0 at first): 0 BOOKING; 1 HELD, a BOOKING: it HOLDS;");
        holds(27, "3 GONE, a BOOKING: CANCELLED by THE DAY; 4 OUT, a BOOKING: THERE, it does not HOLD.");
        VillageHalls x = four();
        int[][] rows = {{0, 0, 0, 0, 0}, {49, 0, 0, 0, 0}, {50, 2, 1, 4, 1}, {59, 2, 1, 4, 1}, {60, 2, 1, 4, 3},
            {364, 2, 1, 4, 3}, {49, 0, 0, 0, 0}};
        for (int k = 0; k < 4; k++) {
            due("kind(" + k + ") on day 0, at first", 0, x.kind(k));
        }
        for (int[] row : rows) {
            x.day(row[0]);
            for (int k = 0; k < 4; k++) {
                due("kind(" + k + ") on " + row[0], row[1 + k], x.kind(k));
            }
        }
        VillageHalls y = new VillageHalls();
        book(y, 0, 0, 0, 0, 1, 1, 1, 0, 0);
        due("CAME on day 0, THE DAY at first", 1, y.kind(0));
        y.cancel(0, 0);
        due("GONE on day 0", 3, y.kind(0));
    }

    private void firmOnes() {
        holds(27, "2 FIRM, a HELD one: its USE is of RANK 0;");
        for (int use = 0; use < 5; use++) {
            VillageHalls x = new VillageHalls();
            book(x, 3, 0, 9, 0, 4, 1, use, 0, 0);
            due("USE " + use, use == 0 ? 2 : 1, x.kind(0));
            rules(x, "hall 3 first school funeral club party;");
            due("USE " + use + " by other RANKS", use == 4 ? 2 : 1, x.kind(0));
            rules(x, "hall 3 fire 0 0;");
            due("USE " + use + " that does not HOLD", 4, x.kind(0));
        }
    }

    private void toldAsTheFirstThatFits() {
        holds(27, "It is told as the first that fits of GONE, FIRM, HELD, OUT, BOOKING: by this it is asked.");
        holds(27, "The KIND of a BOOKING, as it is told.");
        VillageHalls x = new VillageHalls();
        book(x, 0, 0, 9, 0, 4, 1, 0, 0, 5);
        due("ahead of CAME", 0, x.kind(0));
        due("asked as a BOOKING", 1, x.ask(0, 0));
        x.day(5);
        due("FIRM ahead of HELD", 2, x.kind(0));
        due("asked as FIRM", 82, x.ask(0, 0));
        rules(x, "hall 0 first club;");
        due("HELD", 1, x.kind(0));
        due("asked as HELD", 41, x.ask(0, 0));
        rules(x, "hall 0 fire 0 0;");
        due("OUT", 4, x.kind(0));
        due("asked as OUT", 1, x.ask(0, 1));
        x.cancel(0, 5);
        due("GONE ahead of OUT", 3, x.kind(0));
        due("GONE leaves its trace", 1, x.ask(0, 0));
        due("asked as GONE", 13, x.trace(0));
    }

    private void refusedKinds() {
        holds(27, "BAD.");
        VillageHalls x = new VillageHalls();
        bad("of none", x.kind(0));
        book(x, 0, 0, 9, 0, 4, 1, 0, 0, 5);
        for (int bad : new int[] {-1, 1, 15, 16, MIN, MAX}) {
            bad("kind(" + bad + ")", x.kind(bad));
        }
    }

    private void takenAs() {
        holds(28, "A BOOKING is taken as one of a KIND (0 .. 4): its day.");
        VillageHalls x = new VillageHalls();
        book(x, 0, 0, 0, 0, 4, 1, 0, 0, 0);
        book(x, 0, 0, 364, 0, 4, 1, 0, 0, 0);
        for (int kind = 0; kind <= 2; kind++) {
            due("as(0, " + kind + ")", 0, x.as(0, kind));
            due("as(1, " + kind + ")", 364, x.as(1, kind));
        }
        x.cancel(1, 0);
        due("as GONE", 364, x.as(1, 3));
        rules(x, "hall 0 fire 0 0;");
        due("as OUT", 0, x.as(0, 4));
    }

    private void refusedAs() {
        holds(28, "BAD; KIND: it is no such one (each is a BOOKING, FIRM ones are HELD, too).");
        VillageHalls x = four();
        String[] is = {"ynnnn", "ynnnn", "ynnnn", "ynnnn"};
        String[] then = {"yyynn", "yynnn", "ynnny", "ynnyn"};
        for (int day : new int[] {49, 60}) {
            x.day(day);
            for (int k = 0; k < 4; k++) {
                for (int kind = 0; kind < 5; kind++) {
                    boolean right = (day == 49 ? is : then)[k].charAt(kind) == 'y';
                    due("as(" + k + ", " + kind + ") on " + day, right ? x.told(k, 2) : KIND, x.as(k, kind));
                    due("status()", right ? 0 : 3, x.status());
                }
            }
        }
        for (int bad : new int[] {-1, 4, 16, MIN, MAX}) {
            bad("as(" + bad + ", 0)", x.as(bad, 0));
        }
        for (int bad : new int[] {-1, 5, MIN, MAX}) {
            bad("as(0, " + bad + ")", x.as(0, bad));
        }
    }

    private void asked(VillageHalls x, int booking, int what, int answer, int... trace) {
        String name = "ask(" + booking + ", " + what + ")";
        due(name, answer, x.ask(booking, what));
        for (int i = 0; i <= 16; i++) {
            due(name + ", trace(" + i + ")", i < trace.length ? trace[i] : NONE, x.trace(i));
        }
    }

    private void sizes() {
        holds(29, "0 SIZE: 10 lent to all BOOKINGS: people. 11 of HELD ones: what 10 gives, and PRICE. 12 of FIRM "
            + "ones: what 11 gives, twice. 13 of GONE ones: what 10 gives, less MARK.");
        VillageHalls x = ruled("hall 0 rate regular 1000 rate club 0 fire 0 500;");
        book(x, 0, 0, 364, 0, 96, 500, 0, 0, 1);
        book(x, 1, 0, 364, 0, 96, 1, 4, 0, 0);
        book(x, 0, 1, 364, 0, 96, 1, 2, 0, 0);
        book(x, 0, 1, 364, 0, 96, 999, 0, 0, 0);
        asked(x, 0, 0, 500, 10);
        asked(x, 1, 0, 961, 11, 10);
        asked(x, 2, 0, 1, 11, 10);
        asked(x, 3, 0, 999, 10);
        x.day(1);
        asked(x, 0, 0, 193000, 12, 11, 10);
        x.cancel(1, 1);
        asked(x, 1, 0, -3, 13, 10, 20);
    }

    private void marks() {
        holds(29, "1 MARK: 20 lent to all BOOKINGS: the USE. 21 of HELD ones: what 20 gives, and the day. 22 of "
            + "FIRM ones: what 21 gives, and SIZE. 23 of OUT ones: what 20 gives, and SIZE.");
        VillageHalls x = ruled("hall 0 rate regular 1000 fire 0 500 first regular;");
        book(x, 0, 0, 364, 0, 96, 500, 0, 0, 1);
        book(x, 1, 0, 0, 0, 96, 1, 4, 0, 0);
        book(x, 0, 1, 364, 0, 96, 999, 3, 0, 0);
        asked(x, 0, 1, 0, 20);
        asked(x, 1, 1, 4, 21, 20);
        asked(x, 2, 1, 1002, 23, 20, 10);
        x.day(1);
        asked(x, 0, 1, 193364, 22, 21, 20, 12, 11, 10);
        x.cancel(1, 0);
        asked(x, 1, 1, 4, 20);
    }

    private void bodiesThatBegin() {
        holds(29, "(Of an ask the BODY told for the KIND begins, else that of the nearest KIND that it is, too, "
            + "else the one that is lent; SIZE, MARK within others are asked of the same BOOKING anew.)");
        VillageHalls x = four();
        for (int k = 0; k < 4; k++) {
            asked(x, k, 0, x.told(k, 5), 10);
            asked(x, k, 1, x.told(k, 6), 20);
        }
        x.day(60);
        asked(x, 0, 0, 380, 12, 11, 10);
        asked(x, 0, 1, 481, 22, 21, 20, 12, 11, 10);
        asked(x, 1, 0, 45, 11, 10);
        asked(x, 1, 1, 103, 21, 20);
        asked(x, 2, 0, 7, 10);
        asked(x, 2, 1, 11, 23, 20, 10);
        asked(x, 3, 0, 9, 13, 10, 20);
        asked(x, 3, 1, 2, 20);
    }

    private void firstSixteen() {
        holds(29, "ASKS of BOOKINGS, by BODIES, each of which leaves its number in THE TRACE as it begins (the "
            + "first 16):");
        VillageHalls x = four();
        x.day(60);
        for (int again = 0; again < 5; again++) {
            asked(x, 0, 1, 481, 22, 21, 20, 12, 11, 10);
        }
    }

    private void asksThereAre() {
        holds(29, "An ASK (0, 1) of a BOOKING.");
        VillageHalls x = new VillageHalls();
        for (int k = 0; k < 16; k++) {
            book(x, 0, 0, 300, k, k + 1, 100 + k, k % 5, 0, 9);
        }
        for (int k = 0; k < 16; k++) {
            due("SIZE of " + k, 100 + k, x.ask(k, 0));
            due("MARK of " + k, k % 5, x.ask(k, 1));
        }
    }

    private void refusedAsks() {
        holds(29, "BAD.");
        VillageHalls x = new VillageHalls();
        bad("of none", x.ask(0, 0));
        book(x, 0, 0, 9, 0, 4, 1, 0, 0, 5);
        for (int bad : new int[] {-1, 1, 16, MIN, MAX}) {
            bad("ask(" + bad + ", 0)", x.ask(bad, 0));
            bad("ask(" + bad + ", 1)", x.ask(bad, 1));
        }
        for (int bad : new int[] {-1, 2, MIN, MAX}) {
            bad("ask(0, " + bad + ")", x.ask(0, bad));
        }
        due("no BODY began", NONE, x.trace(0));
    }

    private void emptyAheadOfIt() {
        holds(29, "THE TRACE is empty ahead of it.");
        VillageHalls x = four();
        x.day(60);
        asked(x, 0, 1, 481, 22, 21, 20, 12, 11, 10);
        bad("ask(0, 2)", x.ask(0, 2));
        bad("ask(4, 0)", x.ask(4, 0));
        due("a refused ask leaves THE TRACE", 22, x.trace(0));
        due("all of it", 10, x.trace(5));
        asked(x, 2, 0, 7, 10);
    }

    private void placesOfTheTrace() {
        holds(30, "Number i of THE TRACE; NONE.");
        VillageHalls x = four();
        due("ahead of any ask", NONE, x.trace(0));
        x.day(60);
        x.ask(0, 1);
        int[] trace = {22, 21, 20, 12, 11, 10};
        for (int i = 0; i < 6; i++) {
            due("trace(" + i + ")", trace[i], x.trace(i));
        }
        for (int none : new int[] {-1, 6, 15, 16, 17, MIN, MAX}) {
            due("trace(" + none + ")", NONE, x.trace(none));
        }
    }

    private void counts() {
        holds(31, "How many: 0 SHEETS, 1 BOOKINGS, 2 HELD (FIRM, too), 3 FIRM, 4 GONE, 5 OUT ones, on THE DAY, 6 "
            + "COINS, 7 MEETINGS, 8 bytes on the tape.");
        VillageHalls x = four();
        x.feed(0, 3);
        x.coin(0, 0, 0, 1);
        x.coin(0, 0, 0, 1);
        for (int m = 0; m < 5; m++) {
            x.meeting(1, 0, 0, 0, NONE);
        }
        int[][] rows = {{0, 0, 0, 0, 0}, {49, 0, 0, 0, 0}, {50, 3, 1, 0, 1}, {59, 3, 1, 0, 1}, {60, 2, 1, 1, 1}};
        for (int[] row : rows) {
            x.day(row[0]);
            int[] want = {1, 4, row[1], row[2], row[3], row[4], 2, 5, 3};
            for (int what = 0; what <= 8; what++) {
                due("count(" + what + ") on " + row[0], want[what], x.count(what));
            }
        }
        for (int s = 0; s < 8; s++) {
            x.sheet(s, 0, 0);
        }
        due("eight SHEETS", 8, x.count(0));
        x.drop(0);
        due("seven SHEETS", 7, x.count(0));
        VillageHalls y = new VillageHalls();
        for (int k = 0; k < 16; k++) {
            book(y, 0, 0, 9, 0, 1, 1, 0, 0, 0);
        }
        int[] all = {1, 16, 1, 1, 0, 15};
        for (int what = 0; what < 6; what++) {
            due("count(" + what + ") of sixteen", all[what], y.count(what));
        }
        for (int k = 0; k < 16; k++) {
            y.cancel(k, 0);
        }
        due("sixteen GONE", 16, y.count(4));
        due("none HELD", 0, y.count(2));
    }

    private void refusedCounts() {
        holds(31, "BAD.");
        VillageHalls x = new VillageHalls();
        for (int bad : new int[] {-1, 9, 10, MIN, MAX}) {
            bad("count(" + bad + ")", x.count(bad));
        }
        due("count(8)", 0, x.count(8));
    }

    private void statusOfFindings() {
        holds(32, "Of the latest call with a SHEET, or as(), that was not BAD, STATE, FULL: the number of its "
            + "FINDING;");
        VillageHalls x = four();
        x.sheet(0, 0, 1);
        x.set(1, 0, 0);
        due("NULL of set", 1, x.status());
        x.sheet(0, 0, -1);
        due("SIZE of sheet", 4, x.status());
        x.drop(1);
        due("NULL of drop", 1, x.status());
        x.set(0, 1, 0);
        due("PLACE of set", 2, x.status());
        x.copy(0, 0, 1, 0, 0);
        due("NULL of copy", 1, x.status());
        x.copy(0, 0, 7, 0, 0);
        due("STORE of copy", 5, x.status());
        x.copy(0, 0, 0, 0, 2);
        due("PLACE of copy", 2, x.status());
        x.as(0, 3);
        due("KIND of as", 3, x.status());
        x.book(1, 0);
        due("NULL of book", 1, x.status());
        x.book(0, 0);
        due("PLACE of book", 2, x.status());
        bad("a BAD sheet", x.sheet(0, 0, 61));
        bad("a BAD set", x.set(8, 0, 0));
        bad("a BAD copy", x.copy(0, 0, 8, 0, 0));
        bad("a BAD drop", x.drop(8));
        bad("a BAD as", x.as(0, 5));
        x.sheet(7, 2, 9);
        x.set(0, 1, 0);
        bad("a book of a BAD ITEM", x.book(7, 0));
        due("all of these leave it", 2, x.status());
    }

    private void statusOfOthers() {
        holds(32, "0: it had none, or there was none.");
        VillageHalls x = four();
        VillageHalls y = new VillageHalls();
        due("there was none", 0, y.status());
        bad("a BAD one", y.drop(8));
        due("there was none still", 0, y.status());
        int[] answers = new int[6];
        for (int call = 0; call < 6; call++) {
            x.drop(1);
            due("a FINDING", 1, x.status());
            switch (call) {
                case 0: answers[call] = x.sheet(0, 2, 9); break;
                case 1: answers[call] = x.set(7, 0, 0); break;
                case 2: answers[call] = x.copy(7, 0, 0, 0, 0); break;
                case 3: answers[call] = x.book(7, 0); break;
                case 4: answers[call] = x.as(0, 0); break;
                default: answers[call] = x.drop(7); break;
            }
            due("call " + call + " has none, and answered " + answers[call], 0, x.status());
        }
        x.drop(1);
        x.cancel(3, 60);
        x.feed(0, 1);
        x.rules();
        x.coin(0, 0, 0, 1);
        x.give(0, 0, 1, 0);
        x.look(0, 0, 0, 0);
        x.meeting(1, 0, 0, 0, NONE);
        x.day(9);
        x.ask(0, 0);
        due("calls without a SHEET leave it", 1, x.status());
    }
}
